/-- HillBoxes.riddleOf(I)LHillBoxes$Riddle; -/
noncomputable def f_X11_riddleOf (o : Option Nat) (a1 : Int32) (h : AH) : Option (Option Nat × AH) :=
  fR h [11] o 0 fun v1 =>
  rO h [3] v1 <| cl (f_X3_boxAt v1 a1 h) fun v3 h2 =>
  jn (fun (x4 : Option Nat) =>
    some (x4, h2)) fun j21 =>
  if v3 = none then
    j21 none
  else
    fR h2 [1] v3 7 fun v5 =>
    j21 v5
set_option maxRecDepth 100000 in
set_option maxHeartbeats 4000000 in
theorem c_X11_riddleOf (l : Launch) (D : DT) (o : Option Nat) (a1 : Int32) (h : AH) (r : Option Nat × AH) (hf : f_X11_riddleOf o a1 h = some r) : CM l D yX11_riddleOf cX11_riddleOf 3 (some (.object "HillBoxes$Riddle")) 1 22 0 0 [.inr (.inr o), .inl a1] h (some (rB D.1 r.1)) r.2 := by
  refine CM.of (by decide) (Nat.le_of_ble_eq_true rfl) (fun X hl C hD hX hnm E => ?_)
  subst hl
  subst hD
  have C : CX X RX11 cX11_riddleOf 3 := C
  show WW X h 0 0 0 [some (rB (xD X).1 o), some (.int a1), none] []
  unfold f_X11_riddleOf at hf
  refine s_aload_n C dX11_riddleOf_0 rfl ?_
  refine s_getR C fl_X11_10 dX11_riddleOf_1 hf (fun v1 hf => ?_)
  refine s_iload_n C dX11_riddleOf_4 rfl ?_
  refine s_callV (rvf := fun x => some (rB (xD X).1 x)) (st := []) (fr := 0) (lo := 0) (mc := 0) (ms := 0) C [3] wc_X3_boxAt wml_X11_130 wim_X3_boxAt wsl_3_X3_boxAt dX11_riddleOf_5 (As := [.inl a1]) rfl hf (fun x h' hF => c_X3_boxAt _ _ _ _ _ (x, h') hF) rfl (Nat.le_of_ble_eq_true rfl) (room_ok hX (Nat.le_of_ble_eq_true rfl) (Nat.le_of_ble_eq_true rfl)) (cell_ok hX (Nat.le_of_ble_eq_true rfl) (Nat.le_of_ble_eq_true rfl)) (fun v3 h2 hf => ?_)
  refine s_astore_n C dX11_riddleOf_8 (by decide) (nc_i rfl) (lv' := [some (rB (xD X).1 o), some (.int a1), some (rB (xD X).1 v3)]) rfl ?_
  refine s_aload_n C dX11_riddleOf_9 rfl ?_
  refine s_jn hf (fun j21 e21 hf => ?_)
  have k21 : ∀ (x4 : Option Nat), j21 x4 = some r → WW X h2 0 0 21 [none, none, none] [rB (xD X).1 x4] := by
    intro x4 hf
    rw [e21] at hf
    exact s_areturn C E dX11_riddleOf_21 hf (Nat.le_of_ble_eq_true rfl) (Nat.le_of_ble_eq_true rfl)
  refine s_ifnonnull (tgt := 17) C dX11_riddleOf_10 (by decide) hf (fun hf => ?_) (fun hf => ?_)
  · refine s_aload_n C dX11_riddleOf_17 rfl ?_
    refine s_getR C fl_X11_514 dX11_riddleOf_18 hf (fun v5 hf => ?_)
    refine s_weak (lv' := [none, none, none]) trivial ?_
    exact k21 _ hf
  · refine s_null C dX11_riddleOf_13 ?_
    refine s_goto (tgt := 21) C dX11_riddleOf_14 (by decide) ?_
    refine s_weak (lv' := [none, none, none]) trivial ?_
    exact k21 _ hf
/-- HillBoxes$Riddle.digitOf(I)I -/
noncomputable def f_X5_digitOf (o : Option Nat) (a1 : Int32) (h : AH) : Option (Int32 × AH) :=
  jn (fun (x1 : Int32) =>
    some (x1, h)) fun j20 =>
  jn (
    j20 (0 : Int32)) fun j10 =>
  if a1 < 0 then
    j10
  else
    if a1 < (6 : Int32) then
      fR h [5] o 12 fun v2 =>
      aI h 20 v2 a1 fun v3 =>
      j20 v3
    else
      j10
set_option maxRecDepth 100000 in
set_option maxHeartbeats 4000000 in
theorem c_X5_digitOf (l : Launch) (D : DT) (o : Option Nat) (a1 : Int32) (h : AH) (r : Int32 × AH) (hf : f_X5_digitOf o a1 h = some r) : CM l D yX5_digitOf cX5_digitOf 2 (some .int) 0 0 0 0 [.inr (.inr o), .inl a1] h (some (.int r.1)) r.2 := by
  refine CM.of (by decide) (Nat.le_of_ble_eq_true rfl) (fun X hl C hD hX hnm E => ?_)
  subst hl
  subst hD
  have C : CX X RX5 cX5_digitOf 2 := C
  show WW X h 0 0 0 [some (rB (xD X).1 o), some (.int a1)] []
  unfold f_X5_digitOf at hf
  refine s_iload_n C dX5_digitOf_0 rfl ?_
  refine s_jn hf (fun j20 e20 hf => ?_)
  have k20 : ∀ (x1 : Int32), j20 x1 = some r → WW X h 0 0 20 [none, none] [.int x1] := by
    intro x1 hf
    rw [e20] at hf
    exact s_ireturn C E dX5_digitOf_20 hf (Nat.le_of_ble_eq_true rfl) (Nat.le_of_ble_eq_true rfl)
  refine s_jn hf (fun j10 e10 hf => ?_)
  have k10 : j10  = some r → WW X h 0 0 10 [none, none] [] := by
    intro  hf
    rw [e10] at hf
    refine s_iconst C dX5_digitOf_10 (v := (0 : Int32)) (by decide) ?_
    refine s_goto (tgt := 20) C dX5_digitOf_11 (by decide) ?_
    exact k20 _ hf
  refine s_if_lt (tgt := 10) C dX5_digitOf_1 (by decide) hf (fun hf => ?_) (fun hf => ?_)
  · refine s_weak (lv' := [none, none]) trivial ?_
    exact k10 hf
  · refine s_iload_n C dX5_digitOf_4 rfl ?_
    refine s_bipush C dX5_digitOf_5 (v := (6 : Int32)) (by decide) ?_
    refine s_icmp_lt (tgt := 14) C dX5_digitOf_7 (by decide) hf (fun hf => ?_) (fun hf => ?_)
    · refine s_aload_n C dX5_digitOf_14 rfl ?_
      refine s_getR C fl_X5_34 dX5_digitOf_15 hf (fun v2 hf => ?_)
      refine s_iload_n C dX5_digitOf_18 rfl ?_
      refine s_iaload C dX5_digitOf_19 hf (fun v3 hf => ?_)
      refine s_weak (lv' := [none, none]) trivial ?_
      exact k20 _ hf
    · refine s_weak (lv' := [none, none]) trivial ?_
      exact k10 hf
/-- HillBoxes$Riddle.coordinate(I)I -/
noncomputable def f_X5_coordinate (o : Option Nat) (a1 : Int32) (h : AH) : Option (Int32 × AH) :=
  jn (
    some ((-1 : Int32), h)) fun j10 =>
  if a1 < 0 then
    j10
  else
    if a1 < (8 : Int32) then
      fR h [5] o 4 fun v1 =>
      aI h 20 v1 a1 fun v2 =>
      jn (fun (x3 : Int32) (h4 : AH) =>
        some (x3, h4)) fun j49 =>
      if v2 = (6 : Int32) then
        fR h [5] o 6 fun v11 =>
        aI h 20 v11 a1 fun v12 =>
        j49 v12 h
      else
        fR h [5] o 4 fun v5 =>
        aI h 20 v5 a1 fun v6 =>
        rO h [5] o <| cl (f_X5_digitOf o v6 h) fun v8 h7 =>
        fR h7 [5] o 6 fun v9 =>
        aI h7 20 v9 a1 fun v10 =>
        j49 (v8 - v10) h7
    else
      j10
set_option maxRecDepth 100000 in
set_option maxHeartbeats 4000000 in
theorem c_X5_coordinate (l : Launch) (D : DT) (o : Option Nat) (a1 : Int32) (h : AH) (r : Int32 × AH) (hf : f_X5_coordinate o a1 h = some r) : CM l D yX5_coordinate cX5_coordinate 2 (some .int) 1 21 0 0 [.inr (.inr o), .inl a1] h (some (.int r.1)) r.2 := by
  refine CM.of (by decide) (Nat.le_of_ble_eq_true rfl) (fun X hl C hD hX hnm E => ?_)
  subst hl
  subst hD
  have C : CX X RX5 cX5_coordinate 2 := C
  show WW X h 0 0 0 [some (rB (xD X).1 o), some (.int a1)] []
  unfold f_X5_coordinate at hf
  refine s_iload_n C dX5_coordinate_0 rfl ?_
  refine s_jn hf (fun j10 e10 hf => ?_)
  have k10 : j10  = some r → WW X h 0 0 10 [none, none] [] := by
    intro  hf
    rw [e10] at hf
    refine s_iconst C dX5_coordinate_10 (v := (-1 : Int32)) (by decide) ?_
    exact s_ireturn C E dX5_coordinate_11 hf (Nat.le_of_ble_eq_true rfl) (Nat.le_of_ble_eq_true rfl)
  refine s_if_lt (tgt := 10) C dX5_coordinate_1 (by decide) hf (fun hf => ?_) (fun hf => ?_)
  · refine s_weak (lv' := [none, none]) trivial ?_
    exact k10 hf
  · refine s_iload_n C dX5_coordinate_4 rfl ?_
    refine s_bipush C dX5_coordinate_5 (v := (8 : Int32)) (by decide) ?_
    refine s_icmp_lt (tgt := 12) C dX5_coordinate_7 (by decide) hf (fun hf => ?_) (fun hf => ?_)
    · refine s_aload_n C dX5_coordinate_12 rfl ?_
      refine s_getR C fl_X5_15 dX5_coordinate_13 hf (fun v1 hf => ?_)
      refine s_iload_n C dX5_coordinate_16 rfl ?_
      refine s_iaload C dX5_coordinate_17 hf (fun v2 hf => ?_)
      refine s_bipush C dX5_coordinate_18 (v := (6 : Int32)) (by decide) ?_
      refine s_jn hf (fun j49 e49 hf => ?_)
      have k49 : ∀ (x3 : Int32) (h4 : AH), j49 x3 h4 = some r → WW X h4 0 0 49 [none, none] [.int x3] := by
        intro x3 h4 hf
        rw [e49] at hf
        exact s_ireturn C E dX5_coordinate_49 hf (Nat.le_of_ble_eq_true rfl) (Nat.le_of_ble_eq_true rfl)
      refine s_icmp_ne (tgt := 32) C dX5_coordinate_20 (by decide) hf (fun hf => ?_) (fun hf => ?_)
      · refine s_aload_n C dX5_coordinate_32 rfl ?_
        refine s_aload_n C dX5_coordinate_33 rfl ?_
        refine s_getR C fl_X5_15 dX5_coordinate_34 hf (fun v5 hf => ?_)
        refine s_iload_n C dX5_coordinate_37 rfl ?_
        refine s_iaload C dX5_coordinate_38 hf (fun v6 hf => ?_)
        refine s_callV (rvf := fun x => some (.int x)) (st := []) (fr := 0) (lo := 0) (mc := 0) (ms := 0) C [5] wc_X5_digitOf wml_X5_135 wim_X5_digitOf wsl_5_X5_digitOf dX5_coordinate_39 (As := [.inl v6]) rfl hf (fun x h' hF => c_X5_digitOf _ _ _ _ _ (x, h') hF) rfl (Nat.le_of_ble_eq_true rfl) (room_ok hX (Nat.le_of_ble_eq_true rfl) (Nat.le_of_ble_eq_true rfl)) (cell_ok hX (Nat.le_of_ble_eq_true rfl) (Nat.le_of_ble_eq_true rfl)) (fun v8 h7 hf => ?_)
        refine s_aload_n C dX5_coordinate_42 rfl ?_
        refine s_getR C fl_X5_21 dX5_coordinate_43 hf (fun v9 hf => ?_)
        refine s_iload_n C dX5_coordinate_46 rfl ?_
        refine s_iaload C dX5_coordinate_47 hf (fun v10 hf => ?_)
        refine s_isub C dX5_coordinate_48 ?_
        refine s_weak (lv' := [none, none]) trivial ?_
        exact k49 _ _ hf
      · refine s_aload_n C dX5_coordinate_23 rfl ?_
        refine s_getR C fl_X5_21 dX5_coordinate_24 hf (fun v11 hf => ?_)
        refine s_iload_n C dX5_coordinate_27 rfl ?_
        refine s_iaload C dX5_coordinate_28 hf (fun v12 hf => ?_)
        refine s_goto (tgt := 49) C dX5_coordinate_29 (by decide) ?_
        refine s_weak (lv' := [none, none]) trivial ?_
        exact k49 _ _ hf
    · refine s_weak (lv' := [none, none]) trivial ?_
      exact k10 hf
/-- HillBoxes$Riddle.isWithin(II)Z -/
noncomputable def f_X5_isWithin (a0 : Int32) (a1 : Int32) (h : AH) : Option (Int32 × AH) :=
  jn (fun (x1 : Int32) =>
    rz x1 h) fun j14 =>
  jn (
    j14 (0 : Int32)) fun j13 =>
  if a0 < 0 then
    j13
  else
    if a1 ≤ a0 then
      j13
    else
      j14 (1 : Int32)
set_option maxRecDepth 100000 in
set_option maxHeartbeats 4000000 in
theorem c_X5_isWithin (l : Launch) (D : DT) (a0 : Int32) (a1 : Int32) (h : AH) (r : Int32 × AH) (hf : f_X5_isWithin a0 a1 h = some r) : CM l D yX5_isWithin cX5_isWithin 2 (some .boolean) 0 0 0 0 [.inl a0, .inl a1] h (some (.int r.1)) r.2 := by
  refine CM.of (by decide) (Nat.le_of_ble_eq_true rfl) (fun X hl C hD hX hnm E => ?_)
  subst hl
  subst hD
  have C : CX X RX5 cX5_isWithin 2 := C
  show WW X h 0 0 0 [some (.int a0), some (.int a1)] []
  unfold f_X5_isWithin at hf
  refine s_iload_n C dX5_isWithin_0 rfl ?_
  refine s_jn hf (fun j14 e14 hf => ?_)
  have k14 : ∀ (x1 : Int32), j14 x1 = some r → WW X h 0 0 14 [none, none] [.int x1] := by
    intro x1 hf
    rw [e14] at hf
    exact s_zreturn C E dX5_isWithin_14 hf (Nat.le_of_ble_eq_true rfl) (Nat.le_of_ble_eq_true rfl)
  refine s_jn hf (fun j13 e13 hf => ?_)
  have k13 : j13  = some r → WW X h 0 0 13 [none, none] [] := by
    intro  hf
    rw [e13] at hf
    refine s_iconst C dX5_isWithin_13 (v := (0 : Int32)) (by decide) ?_
    exact k14 _ hf
  refine s_if_lt (tgt := 13) C dX5_isWithin_1 (by decide) hf (fun hf => ?_) (fun hf => ?_)
  · refine s_weak (lv' := [none, none]) trivial ?_
    exact k13 hf
  · refine s_iload_n C dX5_isWithin_4 rfl ?_
    refine s_iload_n C dX5_isWithin_5 rfl ?_
    refine s_icmp_ge (tgt := 13) C dX5_isWithin_6 (by decide) hf (fun hf => ?_) (fun hf => ?_)
    · refine s_weak (lv' := [none, none]) trivial ?_
      exact k13 hf
    · refine s_iconst C dX5_isWithin_9 (v := (1 : Int32)) (by decide) ?_
      refine s_goto (tgt := 14) C dX5_isWithin_10 (by decide) ?_
      refine s_weak (lv' := [none, none]) trivial ?_
      exact k14 _ hf
/-- HillBoxes$Riddle.meet(I)V -/
noncomputable def f_X5_meet (o : Option Nat) (a1 : Int32) (h : AH) : Option (Unit × AH) :=
  fI h [5] o 10 fun v1 =>
  rO h [5] o <| cl (f_X5_coordinate o v1 h) fun v3 h2 =>
  fI h2 [5] o 11 fun v4 =>
  rO h2 [5] o <| cl (f_X5_coordinate o v4 h2) fun v6 h5 =>
  cl (f_X5_isWithin v3 (10 : Int32) h5) fun v8 h7 =>
  jn (fun (h9 : AH) =>
    some ((), h9)) fun j76 =>
  if v8 = 0 then
    j76 h7
  else
    cl (f_X5_isWithin v6 (6 : Int32) h7) fun v11 h10 =>
    if v11 = 0 then
      j76 h10
    else
      pI h10 [5] o 0 a1 fun h12 =>
      pI h12 [5] o 1 (((10 : Int32) * v6) + v3) fun h13 =>
      fL h13 [5] o 2 fun v14 =>
      fI h13 [5] o 1 fun v15 =>
      pL h13 [5] o 2 (v14 ||| ((1 : Int64) <<< (v15.toInt64 &&& 63))) fun h16 =>
      fI h16 [5] o 13 fun v17 =>
      pI h16 [5] o 13 (v17 + (1 : Int32)) fun h18 =>
      j76 h18
set_option maxRecDepth 100000 in
set_option maxHeartbeats 4000000 in
theorem c_X5_meet (l : Launch) (D : DT) (o : Option Nat) (a1 : Int32) (h : AH) (r : Unit × AH) (hf : f_X5_meet o a1 h = some r) : CM l D yX5_meet cX5_meet 4 none 2 42 0 0 [.inr (.inr o), .inl a1] h none r.2 := by
  refine CM.of (by decide) (Nat.le_of_ble_eq_true rfl) (fun X hl C hD hX hnm E => ?_)
  subst hl
  subst hD
  have C : CX X RX5 cX5_meet 4 := C
  show WW X h 0 0 0 [some (rB (xD X).1 o), some (.int a1), none, none] []
  unfold f_X5_meet at hf
  refine s_aload_n C dX5_meet_0 rfl ?_
  refine s_aload_n C dX5_meet_1 rfl ?_
  refine s_getI C fl_X5_27 dX5_meet_2 hf (fun v1 hf => ?_)
  refine s_callV (rvf := fun x => some (.int x)) (st := []) (fr := 1) (lo := 21) (mc := 0) (ms := 0) C [5] wc_X5_coordinate wml_X5_118 wim_X5_coordinate wsl_5_X5_coordinate dX5_meet_5 (As := [.inl v1]) rfl hf (fun x h' hF => c_X5_coordinate _ _ _ _ _ (x, h') hF) rfl (Nat.le_of_ble_eq_true rfl) (room_ok hX (Nat.le_of_ble_eq_true rfl) (Nat.le_of_ble_eq_true rfl)) (cell_ok hX (Nat.le_of_ble_eq_true rfl) (Nat.le_of_ble_eq_true rfl)) (fun v3 h2 hf => ?_)
  refine s_istore_n C dX5_meet_8 (by decide) (nc_i rfl) (lv' := [some (rB (xD X).1 o), some (.int a1), some (.int v3), none]) rfl ?_
  refine s_aload_n C dX5_meet_9 rfl ?_
  refine s_aload_n C dX5_meet_10 rfl ?_
  refine s_getI C fl_X5_31 dX5_meet_11 hf (fun v4 hf => ?_)
  refine s_callV (rvf := fun x => some (.int x)) (st := []) (fr := 1) (lo := 21) (mc := 0) (ms := 0) C [5] wc_X5_coordinate wml_X5_118 wim_X5_coordinate wsl_5_X5_coordinate dX5_meet_14 (As := [.inl v4]) rfl hf (fun x h' hF => c_X5_coordinate _ _ _ _ _ (x, h') hF) rfl (Nat.le_of_ble_eq_true rfl) (room_ok hX (Nat.le_of_ble_eq_true rfl) (Nat.le_of_ble_eq_true rfl)) (cell_ok hX (Nat.le_of_ble_eq_true rfl) (Nat.le_of_ble_eq_true rfl)) (fun v6 h5 hf => ?_)
  refine s_istore_n C dX5_meet_17 (by decide) (nc_i rfl) (lv' := [some (rB (xD X).1 o), some (.int a1), some (.int v3), some (.int v6)]) rfl ?_
  refine s_iload_n C dX5_meet_18 rfl ?_
  refine s_bipush C dX5_meet_19 (v := (10 : Int32)) (by decide) ?_
  refine s_callS (rvf := fun x => some (.int x)) (st := []) (fr := 0) (lo := 0) (mc := 0) (ms := 0) C wc_X5_isWithin wml_X5_122 wst_X5_isWithin dX5_meet_21 (As := [.inl v3, .inl (10 : Int32)]) rfl hf (fun x h' hF => c_X5_isWithin _ _ _ _ _ (x, h') hF) rfl (Nat.le_of_ble_eq_true rfl) (room_ok hX (Nat.le_of_ble_eq_true rfl) (Nat.le_of_ble_eq_true rfl)) (cell_ok hX (Nat.le_of_ble_eq_true rfl) (Nat.le_of_ble_eq_true rfl)) (fun v8 h7 hf => ?_)
  refine s_jn hf (fun j76 e76 hf => ?_)
  have k76 : ∀ (h9 : AH), j76 h9 = some r → WW X h9 0 0 76 [none, none, none, none] [] := by
    intro h9 hf
    rw [e76] at hf
    exact s_return C E dX5_meet_76 hf (Nat.le_of_ble_eq_true rfl) (Nat.le_of_ble_eq_true rfl)
  refine s_if_eq (tgt := 76) C dX5_meet_24 (by decide) hf (fun hf => ?_) (fun hf => ?_)
  · refine s_weak (lv' := [none, none, none, none]) trivial ?_
    exact k76 _ hf
  · refine s_iload_n C dX5_meet_27 rfl ?_
    refine s_bipush C dX5_meet_28 (v := (6 : Int32)) (by decide) ?_
    refine s_callS (rvf := fun x => some (.int x)) (st := []) (fr := 0) (lo := 0) (mc := 0) (ms := 0) C wc_X5_isWithin wml_X5_122 wst_X5_isWithin dX5_meet_30 (As := [.inl v6, .inl (6 : Int32)]) rfl hf (fun x h' hF => c_X5_isWithin _ _ _ _ _ (x, h') hF) rfl (Nat.le_of_ble_eq_true rfl) (room_ok hX (Nat.le_of_ble_eq_true rfl) (Nat.le_of_ble_eq_true rfl)) (cell_ok hX (Nat.le_of_ble_eq_true rfl) (Nat.le_of_ble_eq_true rfl)) (fun v11 h10 hf => ?_)
    refine s_if_eq (tgt := 76) C dX5_meet_33 (by decide) hf (fun hf => ?_) (fun hf => ?_)
    · refine s_weak (lv' := [none, none, none, none]) trivial ?_
      exact k76 _ hf
    · refine s_aload_n C dX5_meet_36 rfl ?_
      refine s_iload_n C dX5_meet_37 rfl ?_
      refine s_putI C fl_X5_126 (by decide) dX5_meet_38 hf (fun h12 hf => ?_)
      refine s_aload_n C dX5_meet_41 rfl ?_
      refine s_bipush C dX5_meet_42 (v := (10 : Int32)) (by decide) ?_
      refine s_iload_n C dX5_meet_44 rfl ?_
      refine s_imul C dX5_meet_45 ?_
      refine s_iload_n C dX5_meet_46 rfl ?_
      refine s_iadd C dX5_meet_47 ?_
      refine s_putI C fl_X5_129 (by decide) dX5_meet_48 hf (fun h13 hf => ?_)
      refine s_aload_n C dX5_meet_51 rfl ?_
      refine s_dup C dX5_meet_52 c1_r ?_
      refine s_getL C fl_X5_96 dX5_meet_53 hf (fun v14 hf => ?_)
      refine s_lconst C dX5_meet_56 (v := (1 : Int64)) (by decide) ?_
      refine s_aload_n C dX5_meet_57 rfl ?_
      refine s_getI C fl_X5_129 dX5_meet_58 hf (fun v15 hf => ?_)
      refine s_lshl C dX5_meet_61 ?_
      refine s_lor C dX5_meet_62 ?_
      refine s_putL C fl_X5_96 dX5_meet_63 hf (fun h16 hf => ?_)
      refine s_aload_n C dX5_meet_66 rfl ?_
      refine s_dup C dX5_meet_67 c1_r ?_
      refine s_getI C fl_X5_90 dX5_meet_68 hf (fun v17 hf => ?_)
      refine s_iconst C dX5_meet_71 (v := (1 : Int32)) (by decide) ?_
      refine s_iadd C dX5_meet_72 ?_
      refine s_putI C fl_X5_90 (by decide) dX5_meet_73 hf (fun h18 hf => ?_)
      refine s_weak (lv' := [none, none, none, none]) trivial ?_
      exact k76 _ hf
/-- HillBoxes$Riddle.holds(I)Z -/
noncomputable def f_X5_holds (o : Option Nat) (a1 : Int32) (h : AH) : Option (Int32 × AH) :=
  fR h [5] o 4 fun v1 =>
  aI h 20 v1 a1 fun v2 =>
  rO h [5] o <| cl (f_X5_digitOf o v2 h) fun v4 h3 =>
  fR h3 [5] o 3 fun v5 =>
  aI h3 20 v5 a1 fun v6 =>
  if v6 = 0 then
    fR h3 [5] o 5 fun v7 =>
    aI h3 20 v7 a1 fun v8 =>
    rO h3 [5] o <| cl (f_X5_digitOf o v8 h3) fun v10 h9 =>
    fR h9 [5] o 6 fun v11 =>
    aI h9 20 v11 a1 fun v12 =>
    jn (fun (x13 : Int32) =>
      rz x13 h9) fun j78 =>
    if (v4 + v10) = v12 then
      j78 (1 : Int32)
    else
      j78 (0 : Int32)
  else
  if v6 = 1 then
    fR h3 [5] o 5 fun v14 =>
    aI h3 20 v14 a1 fun v15 =>
    rO h3 [5] o <| cl (f_X5_digitOf o v15 h3) fun v17 h16 =>
    fR h16 [5] o 6 fun v18 =>
    aI h16 20 v18 a1 fun v19 =>
    jn (fun (x20 : Int32) =>
      rz x20 h16) fun j105 =>
    if (v4 * v17) = v19 then
      j105 (1 : Int32)
    else
      j105 (0 : Int32)
  else
  if v6 = 2 then
    fR h3 [5] o 5 fun v21 =>
    aI h3 20 v21 a1 fun v22 =>
    rO h3 [5] o <| cl (f_X5_digitOf o v22 h3) fun v24 h23 =>
    fR h23 [5] o 6 fun v25 =>
    aI h23 20 v25 a1 fun v26 =>
    jn (fun (x27 : Int32) =>
      rz x27 h23) fun j132 =>
    if (v4 - v24) = v26 then
      j132 (1 : Int32)
    else
      j132 (0 : Int32)
  else
  if v6 = 3 then
    fR h3 [5] o 6 fun v28 =>
    aI h3 20 v28 a1 fun v29 =>
    jn (fun (x30 : Int32) =>
      rz x30 h3) fun j148 =>
    if v4 = v29 then
      j148 (1 : Int32)
    else
      j148 (0 : Int32)
  else
  if v6 = 4 then
    fI h3 [5] o 10 fun v31 =>
    jn (fun (x32 : Int32) (h33 : AH) =>
      rz x32 h33) fun j175 =>
    jn (fun (h34 : AH) =>
      j175 (1 : Int32) h34) fun j170 =>
    if a1 = v31 then
      rO h3 [5] o <| cl (f_X5_coordinate o a1 h3) fun v36 h35 =>
      cl (f_X5_isWithin v36 (10 : Int32) h35) fun v38 h37 =>
      if v38 = 0 then
        j175 (0 : Int32) h37
      else
        j170 h37
    else
      j170 h3
  else
    fI h3 [5] o 11 fun v39 =>
    jn (fun (x40 : Int32) (h41 : AH) =>
      rz x40 h41) fun j202 =>
    jn (fun (h42 : AH) =>
      j202 (1 : Int32) h42) fun j197 =>
    if a1 = v39 then
      rO h3 [5] o <| cl (f_X5_coordinate o a1 h3) fun v44 h43 =>
      cl (f_X5_isWithin v44 (6 : Int32) h43) fun v46 h45 =>
      if v46 = 0 then
        j202 (0 : Int32) h45
      else
        j197 h45
    else
      j197 h3
set_option maxRecDepth 100000 in
set_option maxHeartbeats 4000000 in
theorem c_X5_holds (l : Launch) (D : DT) (o : Option Nat) (a1 : Int32) (h : AH) (r : Int32 × AH) (hf : f_X5_holds o a1 h = some r) : CM l D yX5_holds cX5_holds 3 (some .boolean) 2 42 0 0 [.inr (.inr o), .inl a1] h (some (.int r.1)) r.2 := by
  refine CM.of (by decide) (Nat.le_of_ble_eq_true rfl) (fun X hl C hD hX hnm E => ?_)
  subst hl
  subst hD
  have C : CX X RX5 cX5_holds 3 := C
  show WW X h 0 0 0 [some (rB (xD X).1 o), some (.int a1), none] []
  unfold f_X5_holds at hf
  refine s_aload_n C dX5_holds_0 rfl ?_
  refine s_aload_n C dX5_holds_1 rfl ?_
  refine s_getR C fl_X5_15 dX5_holds_2 hf (fun v1 hf => ?_)
  refine s_iload_n C dX5_holds_5 rfl ?_
  refine s_iaload C dX5_holds_6 hf (fun v2 hf => ?_)
  refine s_callV (rvf := fun x => some (.int x)) (st := []) (fr := 0) (lo := 0) (mc := 0) (ms := 0) C [5] wc_X5_digitOf wml_X5_135 wim_X5_digitOf wsl_5_X5_digitOf dX5_holds_7 (As := [.inl v2]) rfl hf (fun x h' hF => c_X5_digitOf _ _ _ _ _ (x, h') hF) rfl (Nat.le_of_ble_eq_true rfl) (room_ok hX (Nat.le_of_ble_eq_true rfl) (Nat.le_of_ble_eq_true rfl)) (cell_ok hX (Nat.le_of_ble_eq_true rfl) (Nat.le_of_ble_eq_true rfl)) (fun v4 h3 hf => ?_)
  refine s_istore_n C dX5_holds_10 (by decide) (nc_i rfl) (lv' := [some (rB (xD X).1 o), some (.int a1), some (.int v4)]) rfl ?_
  refine s_aload_n C dX5_holds_11 rfl ?_
  refine s_getR C fl_X5_11 dX5_holds_12 hf (fun v5 hf => ?_)
  refine s_iload_n C dX5_holds_15 rfl ?_
  refine s_iaload C dX5_holds_16 hf (fun v6 hf => ?_)
  refine s_ite hf (fun e hf => ?_) (fun n0 hf => ?_)
  · refine s_tsw1 (tgt := 52) C dX5_holds_17 e (by decide) (by decide) rfl (by decide) ?_
    refine s_iload_n C dX5_holds_52 rfl ?_
    refine s_aload_n C dX5_holds_53 rfl ?_
    refine s_aload_n C dX5_holds_54 rfl ?_
    refine s_getR C fl_X5_18 dX5_holds_55 hf (fun v7 hf => ?_)
    refine s_iload_n C dX5_holds_58 rfl ?_
    refine s_iaload C dX5_holds_59 hf (fun v8 hf => ?_)
    refine s_callV (rvf := fun x => some (.int x)) (st := [.int v4]) (fr := 0) (lo := 0) (mc := 0) (ms := 0) C [5] wc_X5_digitOf wml_X5_135 wim_X5_digitOf wsl_5_X5_digitOf dX5_holds_60 (As := [.inl v8]) rfl hf (fun x h' hF => c_X5_digitOf _ _ _ _ _ (x, h') hF) rfl (Nat.le_of_ble_eq_true rfl) (room_ok hX (Nat.le_of_ble_eq_true rfl) (Nat.le_of_ble_eq_true rfl)) (cell_ok hX (Nat.le_of_ble_eq_true rfl) (Nat.le_of_ble_eq_true rfl)) (fun v10 h9 hf => ?_)
    refine s_iadd C dX5_holds_63 ?_
    refine s_aload_n C dX5_holds_64 rfl ?_
    refine s_getR C fl_X5_21 dX5_holds_65 hf (fun v11 hf => ?_)
    refine s_iload_n C dX5_holds_68 rfl ?_
    refine s_iaload C dX5_holds_69 hf (fun v12 hf => ?_)
    refine s_jn hf (fun j78 e78 hf => ?_)
    have k78 : ∀ (x13 : Int32), j78 x13 = some r → WW X h9 0 0 78 [none, none, none] [.int x13] := by
      intro x13 hf
      rw [e78] at hf
      exact s_zreturn C E dX5_holds_78 hf (Nat.le_of_ble_eq_true rfl) (Nat.le_of_ble_eq_true rfl)
    refine s_icmp_ne (tgt := 77) C dX5_holds_70 (by decide) hf (fun hf => ?_) (fun hf => ?_)
    · refine s_iconst C dX5_holds_77 (v := (0 : Int32)) (by decide) ?_
      refine s_weak (lv' := [none, none, none]) trivial ?_
      exact k78 _ hf
    · refine s_iconst C dX5_holds_73 (v := (1 : Int32)) (by decide) ?_
      refine s_goto (tgt := 78) C dX5_holds_74 (by decide) ?_
      refine s_weak (lv' := [none, none, none]) trivial ?_
      exact k78 _ hf
  refine s_ite hf (fun e hf => ?_) (fun n1 hf => ?_)
  · refine s_tsw1 (tgt := 79) C dX5_holds_17 e (by decide) (by decide) rfl (by decide) ?_
    refine s_iload_n C dX5_holds_79 rfl ?_
    refine s_aload_n C dX5_holds_80 rfl ?_
    refine s_aload_n C dX5_holds_81 rfl ?_
    refine s_getR C fl_X5_18 dX5_holds_82 hf (fun v14 hf => ?_)
    refine s_iload_n C dX5_holds_85 rfl ?_
    refine s_iaload C dX5_holds_86 hf (fun v15 hf => ?_)
    refine s_callV (rvf := fun x => some (.int x)) (st := [.int v4]) (fr := 0) (lo := 0) (mc := 0) (ms := 0) C [5] wc_X5_digitOf wml_X5_135 wim_X5_digitOf wsl_5_X5_digitOf dX5_holds_87 (As := [.inl v15]) rfl hf (fun x h' hF => c_X5_digitOf _ _ _ _ _ (x, h') hF) rfl (Nat.le_of_ble_eq_true rfl) (room_ok hX (Nat.le_of_ble_eq_true rfl) (Nat.le_of_ble_eq_true rfl)) (cell_ok hX (Nat.le_of_ble_eq_true rfl) (Nat.le_of_ble_eq_true rfl)) (fun v17 h16 hf => ?_)
    refine s_imul C dX5_holds_90 ?_
    refine s_aload_n C dX5_holds_91 rfl ?_
    refine s_getR C fl_X5_21 dX5_holds_92 hf (fun v18 hf => ?_)
    refine s_iload_n C dX5_holds_95 rfl ?_
    refine s_iaload C dX5_holds_96 hf (fun v19 hf => ?_)
    refine s_jn hf (fun j105 e105 hf => ?_)
    have k105 : ∀ (x20 : Int32), j105 x20 = some r → WW X h16 0 0 105 [none, none, none] [.int x20] := by
      intro x20 hf
      rw [e105] at hf
      exact s_zreturn C E dX5_holds_105 hf (Nat.le_of_ble_eq_true rfl) (Nat.le_of_ble_eq_true rfl)
    refine s_icmp_ne (tgt := 104) C dX5_holds_97 (by decide) hf (fun hf => ?_) (fun hf => ?_)
    · refine s_iconst C dX5_holds_104 (v := (0 : Int32)) (by decide) ?_
      refine s_weak (lv' := [none, none, none]) trivial ?_
      exact k105 _ hf
    · refine s_iconst C dX5_holds_100 (v := (1 : Int32)) (by decide) ?_
      refine s_goto (tgt := 105) C dX5_holds_101 (by decide) ?_
      refine s_weak (lv' := [none, none, none]) trivial ?_
      exact k105 _ hf
  refine s_ite hf (fun e hf => ?_) (fun n2 hf => ?_)
  · refine s_tsw1 (tgt := 106) C dX5_holds_17 e (by decide) (by decide) rfl (by decide) ?_
    refine s_iload_n C dX5_holds_106 rfl ?_
    refine s_aload_n C dX5_holds_107 rfl ?_
    refine s_aload_n C dX5_holds_108 rfl ?_
    refine s_getR C fl_X5_18 dX5_holds_109 hf (fun v21 hf => ?_)
    refine s_iload_n C dX5_holds_112 rfl ?_
    refine s_iaload C dX5_holds_113 hf (fun v22 hf => ?_)
    refine s_callV (rvf := fun x => some (.int x)) (st := [.int v4]) (fr := 0) (lo := 0) (mc := 0) (ms := 0) C [5] wc_X5_digitOf wml_X5_135 wim_X5_digitOf wsl_5_X5_digitOf dX5_holds_114 (As := [.inl v22]) rfl hf (fun x h' hF => c_X5_digitOf _ _ _ _ _ (x, h') hF) rfl (Nat.le_of_ble_eq_true rfl) (room_ok hX (Nat.le_of_ble_eq_true rfl) (Nat.le_of_ble_eq_true rfl)) (cell_ok hX (Nat.le_of_ble_eq_true rfl) (Nat.le_of_ble_eq_true rfl)) (fun v24 h23 hf => ?_)
    refine s_isub C dX5_holds_117 ?_
    refine s_aload_n C dX5_holds_118 rfl ?_
    refine s_getR C fl_X5_21 dX5_holds_119 hf (fun v25 hf => ?_)
    refine s_iload_n C dX5_holds_122 rfl ?_
    refine s_iaload C dX5_holds_123 hf (fun v26 hf => ?_)
    refine s_jn hf (fun j132 e132 hf => ?_)
    have k132 : ∀ (x27 : Int32), j132 x27 = some r → WW X h23 0 0 132 [none, none, none] [.int x27] := by
      intro x27 hf
      rw [e132] at hf
      exact s_zreturn C E dX5_holds_132 hf (Nat.le_of_ble_eq_true rfl) (Nat.le_of_ble_eq_true rfl)
    refine s_icmp_ne (tgt := 131) C dX5_holds_124 (by decide) hf (fun hf => ?_) (fun hf => ?_)
    · refine s_iconst C dX5_holds_131 (v := (0 : Int32)) (by decide) ?_
      refine s_weak (lv' := [none, none, none]) trivial ?_
      exact k132 _ hf
    · refine s_iconst C dX5_holds_127 (v := (1 : Int32)) (by decide) ?_
      refine s_goto (tgt := 132) C dX5_holds_128 (by decide) ?_
      refine s_weak (lv' := [none, none, none]) trivial ?_
      exact k132 _ hf
  refine s_ite hf (fun e hf => ?_) (fun n3 hf => ?_)
  · refine s_tsw1 (tgt := 133) C dX5_holds_17 e (by decide) (by decide) rfl (by decide) ?_
    refine s_iload_n C dX5_holds_133 rfl ?_
    refine s_aload_n C dX5_holds_134 rfl ?_
    refine s_getR C fl_X5_21 dX5_holds_135 hf (fun v28 hf => ?_)
    refine s_iload_n C dX5_holds_138 rfl ?_
    refine s_iaload C dX5_holds_139 hf (fun v29 hf => ?_)
    refine s_jn hf (fun j148 e148 hf => ?_)
    have k148 : ∀ (x30 : Int32), j148 x30 = some r → WW X h3 0 0 148 [none, none, none] [.int x30] := by
      intro x30 hf
      rw [e148] at hf
      exact s_zreturn C E dX5_holds_148 hf (Nat.le_of_ble_eq_true rfl) (Nat.le_of_ble_eq_true rfl)
    refine s_icmp_ne (tgt := 147) C dX5_holds_140 (by decide) hf (fun hf => ?_) (fun hf => ?_)
    · refine s_iconst C dX5_holds_147 (v := (0 : Int32)) (by decide) ?_
      refine s_weak (lv' := [none, none, none]) trivial ?_
      exact k148 _ hf
    · refine s_iconst C dX5_holds_143 (v := (1 : Int32)) (by decide) ?_
      refine s_goto (tgt := 148) C dX5_holds_144 (by decide) ?_
      refine s_weak (lv' := [none, none, none]) trivial ?_
      exact k148 _ hf
  refine s_ite hf (fun e hf => ?_) (fun n4 hf => ?_)
  · refine s_tsw1 (tgt := 149) C dX5_holds_17 e (by decide) (by decide) rfl (by decide) ?_
    refine s_iload_n C dX5_holds_149 rfl ?_
    refine s_aload_n C dX5_holds_150 rfl ?_
    refine s_getI C fl_X5_27 dX5_holds_151 hf (fun v31 hf => ?_)
    refine s_jn hf (fun j175 e175 hf => ?_)
    have k175 : ∀ (x32 : Int32) (h33 : AH), j175 x32 h33 = some r → WW X h33 0 0 175 [none, none, none] [.int x32] := by
      intro x32 h33 hf
      rw [e175] at hf
      exact s_zreturn C E dX5_holds_175 hf (Nat.le_of_ble_eq_true rfl) (Nat.le_of_ble_eq_true rfl)
    refine s_jn hf (fun j170 e170 hf => ?_)
    have k170 : ∀ (h34 : AH), j170 h34 = some r → WW X h34 0 0 170 [none, none, none] [] := by
      intro h34 hf
      rw [e170] at hf
      refine s_iconst C dX5_holds_170 (v := (1 : Int32)) (by decide) ?_
      refine s_goto (tgt := 175) C dX5_holds_171 (by decide) ?_
      exact k175 _ _ hf
    refine s_icmp_ne (tgt := 170) C dX5_holds_154 (by decide) hf (fun hf => ?_) (fun hf => ?_)
    · refine s_weak (lv' := [none, none, none]) trivial ?_
      exact k170 _ hf
    · refine s_aload_n C dX5_holds_157 rfl ?_
      refine s_iload_n C dX5_holds_158 rfl ?_
      refine s_callV (rvf := fun x => some (.int x)) (st := []) (fr := 1) (lo := 21) (mc := 0) (ms := 0) C [5] wc_X5_coordinate wml_X5_118 wim_X5_coordinate wsl_5_X5_coordinate dX5_holds_159 (As := [.inl a1]) rfl hf (fun x h' hF => c_X5_coordinate _ _ _ _ _ (x, h') hF) rfl (Nat.le_of_ble_eq_true rfl) (room_ok hX (Nat.le_of_ble_eq_true rfl) (Nat.le_of_ble_eq_true rfl)) (cell_ok hX (Nat.le_of_ble_eq_true rfl) (Nat.le_of_ble_eq_true rfl)) (fun v36 h35 hf => ?_)
      refine s_bipush C dX5_holds_162 (v := (10 : Int32)) (by decide) ?_
      refine s_callS (rvf := fun x => some (.int x)) (st := []) (fr := 0) (lo := 0) (mc := 0) (ms := 0) C wc_X5_isWithin wml_X5_122 wst_X5_isWithin dX5_holds_164 (As := [.inl v36, .inl (10 : Int32)]) rfl hf (fun x h' hF => c_X5_isWithin _ _ _ _ _ (x, h') hF) rfl (Nat.le_of_ble_eq_true rfl) (room_ok hX (Nat.le_of_ble_eq_true rfl) (Nat.le_of_ble_eq_true rfl)) (cell_ok hX (Nat.le_of_ble_eq_true rfl) (Nat.le_of_ble_eq_true rfl)) (fun v38 h37 hf => ?_)
      refine s_if_eq (tgt := 174) C dX5_holds_167 (by decide) hf (fun hf => ?_) (fun hf => ?_)
      · refine s_iconst C dX5_holds_174 (v := (0 : Int32)) (by decide) ?_
        refine s_weak (lv' := [none, none, none]) trivial ?_
        exact k175 _ _ hf
      · refine s_weak (lv' := [none, none, none]) trivial ?_
        exact k170 _ hf
  refine s_tswD (tgt := 176) C dX5_holds_17 (by have n0x := n32 (i := 0) n0 rfl; have n1x := n32 (i := 1) n1 rfl; have n2x := n32 (i := 2) n2 rfl; have n3x := n32 (i := 3) n3 rfl; have n4x := n32 (i := 4) n4 rfl; omega) (by decide) ?_
  refine s_iload_n C dX5_holds_176 rfl ?_
  refine s_aload_n C dX5_holds_177 rfl ?_
  refine s_getI C fl_X5_31 dX5_holds_178 hf (fun v39 hf => ?_)
  refine s_jn hf (fun j202 e202 hf => ?_)
  have k202 : ∀ (x40 : Int32) (h41 : AH), j202 x40 h41 = some r → WW X h41 0 0 202 [none, none, none] [.int x40] := by
    intro x40 h41 hf
    rw [e202] at hf
    exact s_zreturn C E dX5_holds_202 hf (Nat.le_of_ble_eq_true rfl) (Nat.le_of_ble_eq_true rfl)
  refine s_jn hf (fun j197 e197 hf => ?_)
  have k197 : ∀ (h42 : AH), j197 h42 = some r → WW X h42 0 0 197 [none, none, none] [] := by
    intro h42 hf
    rw [e197] at hf
    refine s_iconst C dX5_holds_197 (v := (1 : Int32)) (by decide) ?_
    refine s_goto (tgt := 202) C dX5_holds_198 (by decide) ?_
    exact k202 _ _ hf
  refine s_icmp_ne (tgt := 197) C dX5_holds_181 (by decide) hf (fun hf => ?_) (fun hf => ?_)
  · refine s_weak (lv' := [none, none, none]) trivial ?_
    exact k197 _ hf
  · refine s_aload_n C dX5_holds_184 rfl ?_
    refine s_iload_n C dX5_holds_185 rfl ?_
    refine s_callV (rvf := fun x => some (.int x)) (st := []) (fr := 1) (lo := 21) (mc := 0) (ms := 0) C [5] wc_X5_coordinate wml_X5_118 wim_X5_coordinate wsl_5_X5_coordinate dX5_holds_186 (As := [.inl a1]) rfl hf (fun x h' hF => c_X5_coordinate _ _ _ _ _ (x, h') hF) rfl (Nat.le_of_ble_eq_true rfl) (room_ok hX (Nat.le_of_ble_eq_true rfl) (Nat.le_of_ble_eq_true rfl)) (cell_ok hX (Nat.le_of_ble_eq_true rfl) (Nat.le_of_ble_eq_true rfl)) (fun v44 h43 hf => ?_)
    refine s_bipush C dX5_holds_189 (v := (6 : Int32)) (by decide) ?_
    refine s_callS (rvf := fun x => some (.int x)) (st := []) (fr := 0) (lo := 0) (mc := 0) (ms := 0) C wc_X5_isWithin wml_X5_122 wst_X5_isWithin dX5_holds_191 (As := [.inl v44, .inl (6 : Int32)]) rfl hf (fun x h' hF => c_X5_isWithin _ _ _ _ _ (x, h') hF) rfl (Nat.le_of_ble_eq_true rfl) (room_ok hX (Nat.le_of_ble_eq_true rfl) (Nat.le_of_ble_eq_true rfl)) (cell_ok hX (Nat.le_of_ble_eq_true rfl) (Nat.le_of_ble_eq_true rfl)) (fun v46 h45 hf => ?_)
    refine s_if_eq (tgt := 201) C dX5_holds_194 (by decide) hf (fun hf => ?_) (fun hf => ?_)
    · refine s_iconst C dX5_holds_201 (v := (0 : Int32)) (by decide) ?_
      refine s_weak (lv' := [none, none, none]) trivial ?_
      exact k202 _ _ hf
    · refine s_weak (lv' := [none, none, none]) trivial ?_
      exact k197 _ hf
/-- HillBoxes$Riddle.allHoldAt(I)Z -/
noncomputable def f_X5_allHoldAt (o : Option Nat) (a1 : Int32) (h : AH) : Option (Int32 × AH) :=
  lp (fun _ _ => none) (fun (L2 : Int32 → AH → Option (Int32 × AH)) (x1 : Int32) (h2 : AH) =>
    fI h2 [5] o 8 fun v3 =>
    if v3 ≤ x1 then
      rz (1 : Int32) h2
    else
      fR h2 [5] o 7 fun v4 =>
      aI h2 20 v4 x1 fun v5 =>
      jn (fun (h6 : AH) =>
        L2 (x1 + 1) h6) fun j30 =>
      if v5 = a1 then
        rO h2 [5] o <| cl (f_X5_holds o x1 h2) fun v8 h7 =>
        if v8 = 0 then
          rz (0 : Int32) h7
        else
          j30 h7
      else
        j30 h2) lpN (0 : Int32) h
set_option maxRecDepth 100000 in
set_option maxHeartbeats 4000000 in
theorem c_X5_allHoldAt (l : Launch) (D : DT) (o : Option Nat) (a1 : Int32) (h : AH) (r : Int32 × AH) (hf : f_X5_allHoldAt o a1 h = some r) : CM l D yX5_allHoldAt cX5_allHoldAt 3 (some .boolean) 3 64 0 0 [.inr (.inr o), .inl a1] h (some (.int r.1)) r.2 := by
  refine CM.of (by decide) (Nat.le_of_ble_eq_true rfl) (fun X hl C hD hX hnm E => ?_)
  subst hl
  subst hD
  have C : CX X RX5 cX5_allHoldAt 3 := C
  show WW X h 0 0 0 [some (rB (xD X).1 o), some (.int a1), none] []
  unfold f_X5_allHoldAt at hf
  refine s_iconst C dX5_allHoldAt_0 (v := (0 : Int32)) (by decide) ?_
  refine s_istore_n C dX5_allHoldAt_1 (by decide) (nc_i rfl) (lv' := [some (rB (xD X).1 o), some (.int a1), some (.int (0 : Int32))]) rfl ?_
  refine s_lp2 hf (fun G2 z2 q2 hf => ?_)
  have k2 : ∀ (n : Nat) (x1 : Int32) (h2 : AH), G2 n x1 h2 = some r → WW X h2 0 0 2 [some (rB (xD X).1 o), some (.int a1), some (.int x1)] [] := by
    intro n
    induction n with
    | zero =>
      intro x1 h2 hf
      rw [z2] at hf
      cases hf
    | succ n ih2 =>
      intro x1 h2 hf
      have hf := (q2 n x1 h2).symm.trans hf
      refine s_iload_n C dX5_allHoldAt_2 rfl ?_
      refine s_aload_n C dX5_allHoldAt_3 rfl ?_
      refine s_getI C fl_X5_37 dX5_allHoldAt_4 hf (fun v3 hf => ?_)
      refine s_icmp_ge (tgt := 36) C dX5_allHoldAt_7 (by decide) hf (fun hf => ?_) (fun hf => ?_)
      · refine s_iconst C dX5_allHoldAt_36 (v := (1 : Int32)) (by decide) ?_
        exact s_zreturn C E dX5_allHoldAt_37 hf (Nat.le_of_ble_eq_true rfl) (Nat.le_of_ble_eq_true rfl)
      · refine s_aload_n C dX5_allHoldAt_10 rfl ?_
        refine s_getR C fl_X5_24 dX5_allHoldAt_11 hf (fun v4 hf => ?_)
        refine s_iload_n C dX5_allHoldAt_14 rfl ?_
        refine s_iaload C dX5_allHoldAt_15 hf (fun v5 hf => ?_)
        refine s_iload_n C dX5_allHoldAt_16 rfl ?_
        refine s_jn hf (fun j30 e30 hf => ?_)
        have k30 : ∀ (h6 : AH), j30 h6 = some r → WW X h6 0 0 30 [some (rB (xD X).1 o), some (.int a1), some (.int x1)] [] := by
          intro h6 hf
          rw [e30] at hf
          refine s_iinc C dX5_allHoldAt_30 (v := (x1 + 1)) rfl rfl (by decide) (nc_i rfl) (lv' := [some (rB (xD X).1 o), some (.int a1), some (.int (x1 + 1))]) rfl ?_
          refine s_goto (tgt := 2) C dX5_allHoldAt_33 (by decide) ?_
          exact ih2 _ _ hf
        refine s_icmp_ne (tgt := 30) C dX5_allHoldAt_17 (by decide) hf (fun hf => ?_) (fun hf => ?_)
        · exact k30 _ hf
        · refine s_aload_n C dX5_allHoldAt_20 rfl ?_
          refine s_iload_n C dX5_allHoldAt_21 rfl ?_
          refine s_callV (rvf := fun x => some (.int x)) (st := []) (fr := 2) (lo := 42) (mc := 0) (ms := 0) C [5] wc_X5_holds wml_X5_132 wim_X5_holds wsl_5_X5_holds dX5_allHoldAt_22 (As := [.inl x1]) rfl hf (fun x h' hF => c_X5_holds _ _ _ _ _ (x, h') hF) rfl (Nat.le_of_ble_eq_true rfl) (room_ok hX (Nat.le_of_ble_eq_true rfl) (Nat.le_of_ble_eq_true rfl)) (cell_ok hX (Nat.le_of_ble_eq_true rfl) (Nat.le_of_ble_eq_true rfl)) (fun v8 h7 hf => ?_)
          refine s_if_ne (tgt := 30) C dX5_allHoldAt_25 (by decide) hf (fun hf => ?_) (fun hf => ?_)
          · exact k30 _ hf
          · refine s_iconst C dX5_allHoldAt_28 (v := (0 : Int32)) (by decide) ?_
            exact s_zreturn C E dX5_allHoldAt_29 hf (Nat.le_of_ble_eq_true rfl) (Nat.le_of_ble_eq_true rfl)
  exact k2 lpN _ _ hf
/-- HillBoxes$Riddle.search(III)V, one turn -/
noncomputable def fb_X5_search (g : Nat → Option Nat → Int32 → Int32 → Int32 → AH → Option (Unit × AH)) (o : Option Nat) (a1 : Int32) (a2 : Int32) (a3 : Int32) (h : AH) : Option (Unit × AH) :=
  lp (fun _ => none) (fun (L3 : Int32 → Option (Unit × AH)) (x1 : Int32) =>
    jn (
      jn (fun (h2 : AH) =>
        some ((), h2)) fun j51 =>
      if (6 : Int32) ≤ x1 then
        rO h [5] o <| cl (f_X5_meet o a3 h) fun _ h3 =>
        j51 h3
      else
        rO h [5] o <| cl (g 1 o x1 a2 a3 h) fun _ h4 =>
        j51 h4) fun j28 =>
    if (6 : Int32) ≤ x1 then
      j28
    else
      fI h [5] o 9 fun v5 =>
      if ((v5 >>> (x1 &&& 31)) &&& (1 : Int32)) = 0 then
        L3 (x1 + 1)
      else
        j28) lpN a1
/-- HillBoxes$Riddle.tryDigits(III)V, one turn -/
noncomputable def fb_X5_tryDigits (g : Nat → Option Nat → Int32 → Int32 → Int32 → AH → Option (Unit × AH)) (o : Option Nat) (a1 : Int32) (a2 : Int32) (a3 : Int32) (h : AH) : Option (Unit × AH) :=
  lp (fun _ _ => none) (fun (L3 : Int32 → AH → Option (Unit × AH)) (x1 : Int32) (h2 : AH) =>
    jn (
      some ((), h2)) fun j72 =>
    if (10 : Int32) ≤ x1 then
      j72
    else
      fI h2 [5] o 13 fun v3 =>
      fI h2 [5] o 14 fun v4 =>
      if v4 ≤ v3 then
        j72
      else
        jn (fun (h5 : AH) =>
          L3 (x1 + 1) h5) fun j66 =>
        if ((a2 >>> (x1 &&& 31)) &&& (1 : Int32)) = 0 then
          fR h2 [5] o 12 fun v6 =>
          bI h2 20 v6 a1 x1 fun h7 =>
          rO h7 [5] o <| cl (f_X5_allHoldAt o a1 h7) fun v9 h8 =>
          if v9 = 0 then
            j66 h8
          else
            rO h8 [5] o <| cl (g 0 o (a1 + (1 : Int32)) (a2 ||| ((1 : Int32) <<< (x1 &&& 31))) (((10 : Int32) * a3) + x1) h8) fun _ h10 =>
            j66 h10
        else
          j66 h2) lpN (0 : Int32) h
noncomputable def G_X5_search : Nat → Nat → Option Nat → Int32 → Int32 → Int32 → AH → Option (Unit × AH)
  | 0 => fun _ _ _ _ _ _ => none
  | n + 1 => fun t p0 p1 p2 p3 h => if t = 0 then fb_X5_search (G_X5_search n) p0 p1 p2 p3 h else fb_X5_tryDigits (G_X5_search n) p0 p1 p2 p3 h
theorem eq_G_X5_search (n t : Nat) (p0 : Option Nat) (p1 : Int32) (p2 : Int32) (p3 : Int32) (h : AH) : G_X5_search (n + 1) t p0 p1 p2 p3 h = (if t = 0 then fb_X5_search (G_X5_search n) p0 p1 p2 p3 h else fb_X5_tryDigits (G_X5_search n) p0 p1 p2 p3 h) := by first | rfl | rw [G_X5_search]
noncomputable def f_X5_search (o : Option Nat) (a1 : Int32) (a2 : Int32) (a3 : Int32) (h : AH) : Option (Unit × AH) := G_X5_search (opq 100) 0 o a1 a2 a3 h
noncomputable def f_X5_tryDigits (o : Option Nat) (a1 : Int32) (a2 : Int32) (a3 : Int32) (h : AH) : Option (Unit × AH) := G_X5_search (opq 100) 1 o a1 a2 a3 h
def PG_X5_search (l : Launch) (D : DT) (n : Nat) : Prop := (∀ (p0 : Option Nat) (p1 : Int32) (p2 : Int32) (p3 : Int32) (h : AH) (r : Unit × AH), G_X5_search n 0 p0 p1 p2 p3 h = some r → CM l D yX5_search cX5_search 5 none (4 + n) (86 + 60 * n) 0 0 [.inr (.inr p0), .inl p1, .inl p2, .inl p3] h none r.2) ∧ (∀ (p0 : Option Nat) (p1 : Int32) (p2 : Int32) (p3 : Int32) (h : AH) (r : Unit × AH), G_X5_search n 1 p0 p1 p2 p3 h = some r → CM l D yX5_tryDigits cX5_tryDigits 5 none (4 + n) (86 + 60 * n) 0 0 [.inr (.inr p0), .inl p1, .inl p2, .inl p3] h none r.2)
set_option maxRecDepth 100000 in
set_option maxHeartbeats 4000000 in
theorem cs_X5_search (l : Launch) (D : DT) (nS : Nat) (ih : PG_X5_search l D nS) : ∀ (p0 : Option Nat) (p1 : Int32) (p2 : Int32) (p3 : Int32) (h : AH) (r : Unit × AH), G_X5_search (nS + 1) 0 p0 p1 p2 p3 h = some r → CM l D yX5_search cX5_search 5 none (4 + (nS + 1)) (86 + 60 * (nS + 1)) 0 0 [.inr (.inr p0), .inl p1, .inl p2, .inl p3] h none r.2 := by
  unfold PG_X5_search at ih
  intro o a1 a2 a3 h r hf
  rw [eq_G_X5_search] at hf
  have hf : fb_X5_search (G_X5_search nS) o a1 a2 a3 h = some r := (if_pos rfl).symm.trans hf
  refine CM.of (by decide) (Nat.le_of_ble_eq_true rfl) (fun X hl C hD hX hnm E => ?_)
  subst hl
  subst hD
  have C : CX X RX5 cX5_search 5 := C
  show WW X h 0 0 0 [some (rB (xD X).1 o), some (.int a1), some (.int a2), some (.int a3), none] []
  unfold fb_X5_search at hf
  refine s_iload_n C dX5_search_0 rfl ?_
  refine s_istore C dX5_search_1 (by decide) (nc_i rfl) (lv' := [some (rB (xD X).1 o), some (.int a1), some (.int a2), some (.int a3), some (.int a1)]) rfl ?_
  refine s_lp1 hf (fun G3 z3 q3 hf => ?_)
  have k3 : ∀ (n : Nat) (x1 : Int32), G3 n x1 = some r → WW X h 0 0 3 [some (rB (xD X).1 o), none, some (.int a2), some (.int a3), some (.int x1)] [] := by
    intro n
    induction n with
    | zero =>
      intro x1 hf
      rw [z3] at hf
      cases hf
    | succ n ih3 =>
      intro x1 hf
      have hf := (q3 n x1).symm.trans hf
      refine s_iload C dX5_search_3 rfl ?_
      refine s_bipush C dX5_search_5 (v := (6 : Int32)) (by decide) ?_
      refine s_jn hf (fun j28 e28 hf => ?_)
      have k28 : j28  = some r → WW X h 0 0 28 [some (rB (xD X).1 o), none, some (.int a2), some (.int a3), some (.int x1)] [] := by
        intro  hf
        rw [e28] at hf
        refine s_iload C dX5_search_28 rfl ?_
        refine s_bipush C dX5_search_30 (v := (6 : Int32)) (by decide) ?_
        refine s_jn hf (fun j51 e51 hf => ?_)
        have k51 : ∀ (h2 : AH), j51 h2 = some r → WW X h2 0 0 51 [none, none, none, none, none] [] := by
          intro h2 hf
          rw [e51] at hf
          exact s_return C E dX5_search_51 hf (Nat.le_of_ble_eq_true rfl) (Nat.le_of_ble_eq_true rfl)
        refine s_icmp_ge (tgt := 46) C dX5_search_32 (by decide) hf (fun hf => ?_) (fun hf => ?_)
        · refine s_aload_n C dX5_search_46 rfl ?_
          refine s_iload_n C dX5_search_47 rfl ?_
          refine s_callV (rvf := fun _ => none) (st := []) (fr := 2) (lo := 42) (mc := 0) (ms := 0) C [5] wc_X5_meet wml_X5_111 wim_X5_meet wsl_5_X5_meet dX5_search_48 (As := [.inl a3]) rfl hf (fun x h' hF => c_X5_meet _ _ _ _ _ (x, h') hF) rfl (Nat.le_of_ble_eq_true rfl) (room_ok hX (by omega) (by omega)) (cell_ok hX (Nat.le_of_ble_eq_true rfl) (Nat.le_of_ble_eq_true rfl)) (fun _ h3 hf => ?_)
          refine s_weak (lv' := [none, none, none, none, none]) trivial ?_
          exact k51 _ hf
        · refine s_aload_n C dX5_search_35 rfl ?_
          refine s_iload C dX5_search_36 rfl ?_
          refine s_iload_n C dX5_search_38 rfl ?_
          refine s_iload_n C dX5_search_39 rfl ?_
          refine s_callV (rvf := fun _ => none) (st := []) (fr := (4 + nS)) (lo := (86 + 60 * nS)) (mc := 0) (ms := 0) C [5] wc_X5_tryDigits wml_X5_108 wim_X5_tryDigits wsl_5_X5_tryDigits dX5_search_40 (As := [.inl x1, .inl a2, .inl a3]) rfl hf (fun x h' hF => ih.2 o x1 a2 a3 h (x, h') hF) rfl (Nat.le_of_ble_eq_true rfl) (room_ok hX (by omega) (by omega)) (cell_ok hX (Nat.le_of_ble_eq_true rfl) (Nat.le_of_ble_eq_true rfl)) (fun _ h4 hf => ?_)
          refine s_goto (tgt := 51) C dX5_search_43 (by decide) ?_
          refine s_weak (lv' := [none, none, none, none, none]) trivial ?_
          exact k51 _ hf
      refine s_icmp_ge (tgt := 28) C dX5_search_7 (by decide) hf (fun hf => ?_) (fun hf => ?_)
      · exact k28 hf
      · refine s_aload_n C dX5_search_10 rfl ?_
        refine s_getI C fl_X5_40 dX5_search_11 hf (fun v5 hf => ?_)
        refine s_iload C dX5_search_14 rfl ?_
        refine s_ishr C dX5_search_16 ?_
        refine s_iconst C dX5_search_17 (v := (1 : Int32)) (by decide) ?_
        refine s_iand C dX5_search_18 ?_
        refine s_if_ne (tgt := 28) C dX5_search_19 (by decide) hf (fun hf => ?_) (fun hf => ?_)
        · exact k28 hf
        · refine s_iinc C dX5_search_22 (v := (x1 + 1)) rfl rfl (by decide) (nc_i rfl) (lv' := [some (rB (xD X).1 o), none, some (.int a2), some (.int a3), some (.int (x1 + 1))]) rfl ?_
          refine s_goto (tgt := 3) C dX5_search_25 (by decide) ?_
          exact ih3 _ hf
  refine s_weak (lv' := [some (rB (xD X).1 o), none, some (.int a2), some (.int a3), some (.int a1)]) ⟨rfl, ⟨rfl, ⟨rfl, ⟨rfl, trivial⟩⟩⟩⟩ ?_
  exact k3 lpN _ hf
set_option maxRecDepth 100000 in
set_option maxHeartbeats 4000000 in
theorem cs_X5_tryDigits (l : Launch) (D : DT) (nS : Nat) (ih : PG_X5_search l D nS) : ∀ (p0 : Option Nat) (p1 : Int32) (p2 : Int32) (p3 : Int32) (h : AH) (r : Unit × AH), G_X5_search (nS + 1) 1 p0 p1 p2 p3 h = some r → CM l D yX5_tryDigits cX5_tryDigits 5 none (4 + (nS + 1)) (86 + 60 * (nS + 1)) 0 0 [.inr (.inr p0), .inl p1, .inl p2, .inl p3] h none r.2 := by
  unfold PG_X5_search at ih
  intro o a1 a2 a3 h r hf
  rw [eq_G_X5_search] at hf
  have hf : fb_X5_tryDigits (G_X5_search nS) o a1 a2 a3 h = some r := (if_neg (by decide)).symm.trans (hf)
  refine CM.of (by decide) (Nat.le_of_ble_eq_true rfl) (fun X hl C hD hX hnm E => ?_)
  subst hl
  subst hD
  have C : CX X RX5 cX5_tryDigits 5 := C
  show WW X h 0 0 0 [some (rB (xD X).1 o), some (.int a1), some (.int a2), some (.int a3), none] []
  unfold fb_X5_tryDigits at hf
  refine s_iconst C dX5_tryDigits_0 (v := (0 : Int32)) (by decide) ?_
  refine s_istore C dX5_tryDigits_1 (by decide) (nc_i rfl) (lv' := [some (rB (xD X).1 o), some (.int a1), some (.int a2), some (.int a3), some (.int (0 : Int32))]) rfl ?_
  refine s_lp2 hf (fun G3 z3 q3 hf => ?_)
  have k3 : ∀ (n : Nat) (x1 : Int32) (h2 : AH), G3 n x1 h2 = some r → WW X h2 0 0 3 [some (rB (xD X).1 o), some (.int a1), some (.int a2), some (.int a3), some (.int x1)] [] := by
    intro n
    induction n with
    | zero =>
      intro x1 h2 hf
      rw [z3] at hf
      cases hf
    | succ n ih3 =>
      intro x1 h2 hf
      have hf := (q3 n x1 h2).symm.trans hf
      refine s_iload C dX5_tryDigits_3 rfl ?_
      refine s_bipush C dX5_tryDigits_5 (v := (10 : Int32)) (by decide) ?_
      refine s_jn hf (fun j72 e72 hf => ?_)
      have k72 : j72  = some r → WW X h2 0 0 72 [none, none, none, none, none] [] := by
        intro  hf
        rw [e72] at hf
        exact s_return C E dX5_tryDigits_72 hf (Nat.le_of_ble_eq_true rfl) (Nat.le_of_ble_eq_true rfl)
      refine s_icmp_ge (tgt := 72) C dX5_tryDigits_7 (by decide) hf (fun hf => ?_) (fun hf => ?_)
      · refine s_weak (lv' := [none, none, none, none, none]) trivial ?_
        exact k72 hf
      · refine s_aload_n C dX5_tryDigits_10 rfl ?_
        refine s_getI C fl_X5_90 dX5_tryDigits_11 hf (fun v3 hf => ?_)
        refine s_aload_n C dX5_tryDigits_14 rfl ?_
        refine s_getI C fl_X5_93 dX5_tryDigits_15 hf (fun v4 hf => ?_)
        refine s_icmp_ge (tgt := 72) C dX5_tryDigits_18 (by decide) hf (fun hf => ?_) (fun hf => ?_)
        · refine s_weak (lv' := [none, none, none, none, none]) trivial ?_
          exact k72 hf
        · refine s_iload_n C dX5_tryDigits_21 rfl ?_
          refine s_iload C dX5_tryDigits_22 rfl ?_
          refine s_ishr C dX5_tryDigits_24 ?_
          refine s_iconst C dX5_tryDigits_25 (v := (1 : Int32)) (by decide) ?_
          refine s_iand C dX5_tryDigits_26 ?_
          refine s_jn hf (fun j66 e66 hf => ?_)
          have k66 : ∀ (h5 : AH), j66 h5 = some r → WW X h5 0 0 66 [some (rB (xD X).1 o), some (.int a1), some (.int a2), some (.int a3), some (.int x1)] [] := by
            intro h5 hf
            rw [e66] at hf
            refine s_iinc C dX5_tryDigits_66 (v := (x1 + 1)) rfl rfl (by decide) (nc_i rfl) (lv' := [some (rB (xD X).1 o), some (.int a1), some (.int a2), some (.int a3), some (.int (x1 + 1))]) rfl ?_
            refine s_goto (tgt := 3) C dX5_tryDigits_69 (by decide) ?_
            exact ih3 _ _ hf
          refine s_if_ne (tgt := 66) C dX5_tryDigits_27 (by decide) hf (fun hf => ?_) (fun hf => ?_)
          · exact k66 _ hf
          · refine s_aload_n C dX5_tryDigits_30 rfl ?_
            refine s_getR C fl_X5_34 dX5_tryDigits_31 hf (fun v6 hf => ?_)
            refine s_iload_n C dX5_tryDigits_34 rfl ?_
            refine s_iload C dX5_tryDigits_35 rfl ?_
            refine s_iastore C dX5_tryDigits_37 hf (fun h7 hf => ?_)
            refine s_aload_n C dX5_tryDigits_38 rfl ?_
            refine s_iload_n C dX5_tryDigits_39 rfl ?_
            refine s_callV (rvf := fun x => some (.int x)) (st := []) (fr := 3) (lo := 64) (mc := 0) (ms := 0) C [5] wc_X5_allHoldAt wml_X5_114 wim_X5_allHoldAt wsl_5_X5_allHoldAt dX5_tryDigits_40 (As := [.inl a1]) rfl hf (fun x h' hF => c_X5_allHoldAt _ _ _ _ _ (x, h') hF) rfl (Nat.le_of_ble_eq_true rfl) (room_ok hX (by omega) (by omega)) (cell_ok hX (Nat.le_of_ble_eq_true rfl) (Nat.le_of_ble_eq_true rfl)) (fun v9 h8 hf => ?_)
            refine s_if_eq (tgt := 66) C dX5_tryDigits_43 (by decide) hf (fun hf => ?_) (fun hf => ?_)
            · exact k66 _ hf
            · refine s_aload_n C dX5_tryDigits_46 rfl ?_
              refine s_iload_n C dX5_tryDigits_47 rfl ?_
              refine s_iconst C dX5_tryDigits_48 (v := (1 : Int32)) (by decide) ?_
              refine s_iadd C dX5_tryDigits_49 ?_
              refine s_iload_n C dX5_tryDigits_50 rfl ?_
              refine s_iconst C dX5_tryDigits_51 (v := (1 : Int32)) (by decide) ?_
              refine s_iload C dX5_tryDigits_52 rfl ?_
              refine s_ishl C dX5_tryDigits_54 ?_
              refine s_ior C dX5_tryDigits_55 ?_
              refine s_bipush C dX5_tryDigits_56 (v := (10 : Int32)) (by decide) ?_
              refine s_iload_n C dX5_tryDigits_58 rfl ?_
              refine s_imul C dX5_tryDigits_59 ?_
              refine s_iload C dX5_tryDigits_60 rfl ?_
              refine s_iadd C dX5_tryDigits_62 ?_
              refine s_callV (rvf := fun _ => none) (st := []) (fr := (4 + nS)) (lo := (86 + 60 * nS)) (mc := 0) (ms := 0) C [5] wc_X5_search wml_X5_104 wim_X5_search wsl_5_X5_search dX5_tryDigits_63 (As := [.inl (a1 + (1 : Int32)), .inl (a2 ||| ((1 : Int32) <<< (x1 &&& 31))), .inl (((10 : Int32) * a3) + x1)]) rfl hf (fun x h' hF => ih.1 o (a1 + (1 : Int32)) (a2 ||| ((1 : Int32) <<< (x1 &&& 31))) (((10 : Int32) * a3) + x1) h8 (x, h') hF) rfl (Nat.le_of_ble_eq_true rfl) (room_ok hX (by omega) (by omega)) (cell_ok hX (Nat.le_of_ble_eq_true rfl) (Nat.le_of_ble_eq_true rfl)) (fun _ h10 hf => ?_)
              exact k66 _ hf
  exact k3 lpN _ _ hf
theorem c_G_X5_search (l : Launch) (D : DT) : ∀ n : Nat, PG_X5_search l D n := by
  intro n
  induction n with
  | zero =>
    unfold PG_X5_search
    exact ⟨fun p0 p1 p2 p3 h r hf => (by cases hf), fun p0 p1 p2 p3 h r hf => (by cases hf)⟩
  | succ nS ih =>
    unfold PG_X5_search
    exact ⟨cs_X5_search l D nS ih, cs_X5_tryDigits l D nS ih⟩
theorem c_X5_search (l : Launch) (D : DT) (o : Option Nat) (a1 : Int32) (a2 : Int32) (a3 : Int32) (h : AH) (r : Unit × AH) (hf : f_X5_search o a1 a2 a3 h = some r) : CM l D yX5_search cX5_search 5 none 104 6086 0 0 [.inr (.inr o), .inl a1, .inl a2, .inl a3] h none r.2 := by
  have hc := (c_G_X5_search l D (opq 100))
  unfold PG_X5_search at hc
  have hc := hc.1 o a1 a2 a3 h r hf
  rw [opq_eq] at hc
  exact hc
theorem c_X5_tryDigits (l : Launch) (D : DT) (o : Option Nat) (a1 : Int32) (a2 : Int32) (a3 : Int32) (h : AH) (r : Unit × AH) (hf : f_X5_tryDigits o a1 a2 a3 h = some r) : CM l D yX5_tryDigits cX5_tryDigits 5 none 104 6086 0 0 [.inr (.inr o), .inl a1, .inl a2, .inl a3] h none r.2 := by
  have hc := (c_G_X5_search l D (opq 100))
  unfold PG_X5_search at hc
  have hc := hc.2 o a1 a2 a3 h r hf
  rw [opq_eq] at hc
  exact hc
/-- HillBoxes$Riddle.tellsCell()Z -/
noncomputable def f_X5_tellsCell (o : Option Nat) (h : AH) : Option (Int32 × AH) :=
  fI h [5] o 10 fun v1 =>
  jn (fun (x2 : Int32) =>
    rz x2 h) fun j19 =>
  jn (
    j19 (0 : Int32)) fun j18 =>
  if v1 < 0 then
    j18
  else
    fI h [5] o 11 fun v3 =>
    if v3 < 0 then
      j18
    else
      j19 (1 : Int32)
set_option maxRecDepth 100000 in
set_option maxHeartbeats 4000000 in
theorem c_X5_tellsCell (l : Launch) (D : DT) (o : Option Nat) (h : AH) (r : Int32 × AH) (hf : f_X5_tellsCell o h = some r) : CM l D yX5_tellsCell cX5_tellsCell 1 (some .boolean) 0 0 0 0 [.inr (.inr o)] h (some (.int r.1)) r.2 := by
  refine CM.of (by decide) (Nat.le_of_ble_eq_true rfl) (fun X hl C hD hX hnm E => ?_)
  subst hl
  subst hD
  have C : CX X RX5 cX5_tellsCell 1 := C
  show WW X h 0 0 0 [some (rB (xD X).1 o)] []
  unfold f_X5_tellsCell at hf
  refine s_aload_n C dX5_tellsCell_0 rfl ?_
  refine s_getI C fl_X5_27 dX5_tellsCell_1 hf (fun v1 hf => ?_)
  refine s_jn hf (fun j19 e19 hf => ?_)
  have k19 : ∀ (x2 : Int32), j19 x2 = some r → WW X h 0 0 19 [none] [.int x2] := by
    intro x2 hf
    rw [e19] at hf
    exact s_zreturn C E dX5_tellsCell_19 hf (Nat.le_of_ble_eq_true rfl) (Nat.le_of_ble_eq_true rfl)
  refine s_jn hf (fun j18 e18 hf => ?_)
  have k18 : j18  = some r → WW X h 0 0 18 [none] [] := by
    intro  hf
    rw [e18] at hf
    refine s_iconst C dX5_tellsCell_18 (v := (0 : Int32)) (by decide) ?_
    exact k19 _ hf
  refine s_if_lt (tgt := 18) C dX5_tellsCell_4 (by decide) hf (fun hf => ?_) (fun hf => ?_)
  · refine s_weak (lv' := [none]) trivial ?_
    exact k18 hf
  · refine s_aload_n C dX5_tellsCell_7 rfl ?_
    refine s_getI C fl_X5_31 dX5_tellsCell_8 hf (fun v3 hf => ?_)
    refine s_if_lt (tgt := 18) C dX5_tellsCell_11 (by decide) hf (fun hf => ?_) (fun hf => ?_)
    · refine s_weak (lv' := [none]) trivial ?_
      exact k18 hf
    · refine s_iconst C dX5_tellsCell_14 (v := (1 : Int32)) (by decide) ?_
      refine s_goto (tgt := 19) C dX5_tellsCell_15 (by decide) ?_
      refine s_weak (lv' := [none]) trivial ?_
      exact k19 _ hf
/-- HillBoxes$Riddle.lookFor(I)V -/
noncomputable def f_X5_lookFor (o : Option Nat) (a1 : Int32) (h : AH) : Option (Unit × AH) :=
  pI h [5] o 14 a1 fun h1 =>
  pI h1 [5] o 13 (0 : Int32) fun h2 =>
  pL h2 [5] o 2 (0 : Int64) fun h3 =>
  rO h3 [5] o <| cl (f_X5_tellsCell o h3) fun v5 h4 =>
  jn (fun (h6 : AH) =>
    some ((), h6)) fun j29 =>
  if v5 = 0 then
    j29 h4
  else
    rO h4 [5] o <| cl (f_X5_search o (0 : Int32) (0 : Int32) (0 : Int32) h4) fun _ h7 =>
    j29 h7
set_option maxRecDepth 100000 in
set_option maxHeartbeats 4000000 in
theorem c_X5_lookFor (l : Launch) (D : DT) (o : Option Nat) (a1 : Int32) (h : AH) (r : Unit × AH) (hf : f_X5_lookFor o a1 h = some r) : CM l D yX5_lookFor cX5_lookFor 2 none 105 6110 0 0 [.inr (.inr o), .inl a1] h none r.2 := by
  refine CM.of (by decide) (Nat.le_of_ble_eq_true rfl) (fun X hl C hD hX hnm E => ?_)
  subst hl
  subst hD
  have C : CX X RX5 cX5_lookFor 2 := C
  show WW X h 0 0 0 [some (rB (xD X).1 o), some (.int a1)] []
  unfold f_X5_lookFor at hf
  refine s_aload_n C dX5_lookFor_0 rfl ?_
  refine s_iload_n C dX5_lookFor_1 rfl ?_
  refine s_putI C fl_X5_93 (by decide) dX5_lookFor_2 hf (fun h1 hf => ?_)
  refine s_aload_n C dX5_lookFor_5 rfl ?_
  refine s_iconst C dX5_lookFor_6 (v := (0 : Int32)) (by decide) ?_
  refine s_putI C fl_X5_90 (by decide) dX5_lookFor_7 hf (fun h2 hf => ?_)
  refine s_aload_n C dX5_lookFor_10 rfl ?_
  refine s_lconst C dX5_lookFor_11 (v := (0 : Int64)) (by decide) ?_
  refine s_putL C fl_X5_96 dX5_lookFor_12 hf (fun h3 hf => ?_)
  refine s_aload_n C dX5_lookFor_15 rfl ?_
  refine s_callV (rvf := fun x => some (.int x)) (st := []) (fr := 0) (lo := 0) (mc := 0) (ms := 0) C [5] wc_X5_tellsCell wml_X5_100 wim_X5_tellsCell wsl_5_X5_tellsCell dX5_lookFor_16 (As := []) rfl hf (fun x h' hF => c_X5_tellsCell _ _ _ _ (x, h') hF) rfl (Nat.le_of_ble_eq_true rfl) (room_ok hX (Nat.le_of_ble_eq_true rfl) (Nat.le_of_ble_eq_true rfl)) (cell_ok hX (Nat.le_of_ble_eq_true rfl) (Nat.le_of_ble_eq_true rfl)) (fun v5 h4 hf => ?_)
  refine s_jn hf (fun j29 e29 hf => ?_)
  have k29 : ∀ (h6 : AH), j29 h6 = some r → WW X h6 0 0 29 [none, none] [] := by
    intro h6 hf
    rw [e29] at hf
    exact s_return C E dX5_lookFor_29 hf (Nat.le_of_ble_eq_true rfl) (Nat.le_of_ble_eq_true rfl)
  refine s_if_eq (tgt := 29) C dX5_lookFor_19 (by decide) hf (fun hf => ?_) (fun hf => ?_)
  · refine s_weak (lv' := [none, none]) trivial ?_
    exact k29 _ hf
  · refine s_aload_n C dX5_lookFor_22 rfl ?_
    refine s_iconst C dX5_lookFor_23 (v := (0 : Int32)) (by decide) ?_
    refine s_iconst C dX5_lookFor_24 (v := (0 : Int32)) (by decide) ?_
    refine s_iconst C dX5_lookFor_25 (v := (0 : Int32)) (by decide) ?_
    refine s_callV (rvf := fun _ => none) (st := []) (fr := 104) (lo := 6086) (mc := 0) (ms := 0) C [5] wc_X5_search wml_X5_104 wim_X5_search wsl_5_X5_search dX5_lookFor_26 (As := [.inl (0 : Int32), .inl (0 : Int32), .inl (0 : Int32)]) rfl hf (fun x h' hF => c_X5_search _ _ _ _ _ _ _ (x, h') hF) rfl (Nat.le_of_ble_eq_true rfl) (room_ok hX (Nat.le_of_ble_eq_true rfl) (Nat.le_of_ble_eq_true rfl)) (cell_ok hX (Nat.le_of_ble_eq_true rfl) (Nat.le_of_ble_eq_true rfl)) (fun _ h7 hf => ?_)
    refine s_weak (lv' := [none, none]) trivial ?_
    exact k29 _ hf
/-- HillBoxes$Riddle.countSolutions()I -/
noncomputable def f_X5_countSolutions (o : Option Nat) (h : AH) : Option (Int32 × AH) :=
  rO h [5] o <| cl (f_X5_lookFor o (2147483647 : Int32) h) fun _ h1 =>
  fI h1 [5] o 13 fun v2 =>
  some (v2, h1)
set_option maxRecDepth 100000 in
set_option maxHeartbeats 4000000 in
theorem c_X5_countSolutions (l : Launch) (D : DT) (o : Option Nat) (h : AH) (r : Int32 × AH) (hf : f_X5_countSolutions o h = some r) : CM l D yX5_countSolutions cX5_countSolutions 1 (some .int) 106 6131 0 0 [.inr (.inr o)] h (some (.int r.1)) r.2 := by
  refine CM.of (by decide) (Nat.le_of_ble_eq_true rfl) (fun X hl C hD hX hnm E => ?_)
  subst hl
  subst hD
  have C : CX X RX5 cX5_countSolutions 1 := C
  show WW X h 0 0 0 [some (rB (xD X).1 o)] []
  unfold f_X5_countSolutions at hf
  refine s_aload_n C dX5_countSolutions_0 rfl ?_
  refine s_ldc C dX5_countSolutions_1 wk_X5_85 ?_
  refine s_callV (rvf := fun _ => none) (st := []) (fr := 105) (lo := 6110) (mc := 0) (ms := 0) C [5] wc_X5_lookFor wml_X5_86 wim_X5_lookFor wsl_5_X5_lookFor dX5_countSolutions_3 (As := [.inl (2147483647 : Int32)]) rfl hf (fun x h' hF => c_X5_lookFor _ _ _ _ _ (x, h') hF) rfl (Nat.le_of_ble_eq_true rfl) (room_ok hX (Nat.le_of_ble_eq_true rfl) (Nat.le_of_ble_eq_true rfl)) (cell_ok hX (Nat.le_of_ble_eq_true rfl) (Nat.le_of_ble_eq_true rfl)) (fun _ h1 hf => ?_)
  refine s_aload_n C dX5_countSolutions_6 rfl ?_
  refine s_getI C fl_X5_90 dX5_countSolutions_7 hf (fun v2 hf => ?_)
  exact s_ireturn C E dX5_countSolutions_10 hf (Nat.le_of_ble_eq_true rfl) (Nat.le_of_ble_eq_true rfl)
/-- HillBoxes.others(II)J -/
noncomputable def f_X11_others (o : Option Nat) (a1 : Int32) (a2 : Int32) (h : AH) : Option (Int64 × AH) :=
  rO h [11] o <| cl (f_X11_riddleOf o a1 h) fun v2 h1 =>
  fR h1 [11] o 0 fun v3 =>
  rO h1 [3] v3 <| cl (f_X3_boxAt v3 a1 h1) fun v5 h4 =>
  jn (fun (h6 : AH) =>
    some ((-9223372036854775808 : Int64), h6)) fun j36 =>
  if v2 = none then
    j36 h4
  else
    if v5 = none then
      j36 h4
    else
      fR h4 [11] o 0 fun v7 =>
      rO h4 [3] v7 <| cl (f_X3_finderAt v7 a2 h4) fun v9 h8 =>
      if v9 = none then
        j36 h8
      else
        fI h8 [1] v5 8 fun v10 =>
        jn (fun (h11 : AH) =>
          some ((9223372036854775807 : Int64), h11)) fun j56 =>
        if v10 = a2 then
          rO h8 [5] v2 <| cl (f_X5_tellsCell v2 h8) fun v13 h12 =>
          if v13 = 0 then
            j56 h12
          else
            rO h12 [5] v2 <| cl (f_X5_countSolutions v2 h12) fun v15 h14 =>
            fL h14 [5] v2 2 fun v16 =>
            fI h14 [1] v5 9 fun v17 =>
            some ((v16 &&& (((1 : Int64) <<< (v17.toInt64 &&& 63)) ^^^ (-1 : Int64))), h14)
        else
          j56 h8
set_option maxRecDepth 100000 in
set_option maxHeartbeats 4000000 in
theorem c_X11_others (l : Launch) (D : DT) (o : Option Nat) (a1 : Int32) (a2 : Int32) (h : AH) (r : Int64 × AH) (hf : f_X11_others o a1 a2 h = some r) : CM l D yX11_others cX11_others 5 (some .long) 107 6151 0 0 [.inr (.inr o), .inl a1, .inl a2] h (some (.long r.1)) r.2 := by
  refine CM.of (by decide) (Nat.le_of_ble_eq_true rfl) (fun X hl C hD hX hnm E => ?_)
  subst hl
  subst hD
  have C : CX X RX11 cX11_others 5 := C
  show WW X h 0 0 0 [some (rB (xD X).1 o), some (.int a1), some (.int a2), none, none] []
  unfold f_X11_others at hf
  refine s_aload_n C dX11_others_0 rfl ?_
  refine s_iload_n C dX11_others_1 rfl ?_
  refine s_callV (rvf := fun x => some (rB (xD X).1 x)) (st := []) (fr := 1) (lo := 22) (mc := 0) (ms := 0) C [11] wc_X11_riddleOf wml_X11_234 wim_X11_riddleOf wsl_11_X11_riddleOf dX11_others_2 (As := [.inl a1]) rfl hf (fun x h' hF => c_X11_riddleOf _ _ _ _ _ (x, h') hF) rfl (Nat.le_of_ble_eq_true rfl) (room_ok hX (Nat.le_of_ble_eq_true rfl) (Nat.le_of_ble_eq_true rfl)) (cell_ok hX (Nat.le_of_ble_eq_true rfl) (Nat.le_of_ble_eq_true rfl)) (fun v2 h1 hf => ?_)
  refine s_astore_n C dX11_others_5 (by decide) (nc_i rfl) (lv' := [some (rB (xD X).1 o), some (.int a1), some (.int a2), some (rB (xD X).1 v2), none]) rfl ?_
  refine s_aload_n C dX11_others_6 rfl ?_
  refine s_getR C fl_X11_10 dX11_others_7 hf (fun v3 hf => ?_)
  refine s_iload_n C dX11_others_10 rfl ?_
  refine s_callV (rvf := fun x => some (rB (xD X).1 x)) (st := []) (fr := 0) (lo := 0) (mc := 0) (ms := 0) C [3] wc_X3_boxAt wml_X11_130 wim_X3_boxAt wsl_3_X3_boxAt dX11_others_11 (As := [.inl a1]) rfl hf (fun x h' hF => c_X3_boxAt _ _ _ _ _ (x, h') hF) rfl (Nat.le_of_ble_eq_true rfl) (room_ok hX (Nat.le_of_ble_eq_true rfl) (Nat.le_of_ble_eq_true rfl)) (cell_ok hX (Nat.le_of_ble_eq_true rfl) (Nat.le_of_ble_eq_true rfl)) (fun v5 h4 hf => ?_)
  refine s_astore C dX11_others_14 (by decide) (nc_r rfl) (lv' := [some (rB (xD X).1 o), some (.int a1), some (.int a2), some (rB (xD X).1 v2), some (rB (xD X).1 v5)]) rfl ?_
  refine s_aload_n C dX11_others_16 rfl ?_
  refine s_jn hf (fun j36 e36 hf => ?_)
  have k36 : ∀ (h6 : AH), j36 h6 = some r → WW X h6 0 0 36 [none, none, none, none, none] [] := by
    intro h6 hf
    rw [e36] at hf
    refine s_ldc2 C dX11_others_36 wk_X11_272 ?_
    exact s_lreturn C E dX11_others_39 hf (Nat.le_of_ble_eq_true rfl) (Nat.le_of_ble_eq_true rfl)
  refine s_ifnull (tgt := 36) C dX11_others_17 (by decide) hf (fun hf => ?_) (fun hf => ?_)
  · refine s_weak (lv' := [none, none, none, none, none]) trivial ?_
    exact k36 _ hf
  · refine s_aload C dX11_others_20 rfl ?_
    refine s_ifnull (tgt := 36) C dX11_others_22 (by decide) hf (fun hf => ?_) (fun hf => ?_)
    · refine s_weak (lv' := [none, none, none, none, none]) trivial ?_
      exact k36 _ hf
    · refine s_aload_n C dX11_others_25 rfl ?_
      refine s_getR C fl_X11_10 dX11_others_26 hf (fun v7 hf => ?_)
      refine s_iload_n C dX11_others_29 rfl ?_
      refine s_callV (rvf := fun x => some (rB (xD X).1 x)) (st := []) (fr := 0) (lo := 0) (mc := 0) (ms := 0) C [3] wc_X3_finderAt wml_X11_90 wim_X3_finderAt wsl_3_X3_finderAt dX11_others_30 (As := [.inl a2]) rfl hf (fun x h' hF => c_X3_finderAt _ _ _ _ _ (x, h') hF) rfl (Nat.le_of_ble_eq_true rfl) (room_ok hX (Nat.le_of_ble_eq_true rfl) (Nat.le_of_ble_eq_true rfl)) (cell_ok hX (Nat.le_of_ble_eq_true rfl) (Nat.le_of_ble_eq_true rfl)) (fun v9 h8 hf => ?_)
      refine s_ifnonnull (tgt := 40) C dX11_others_33 (by decide) hf (fun hf => ?_) (fun hf => ?_)
      · refine s_aload C dX11_others_40 rfl ?_
        refine s_getI C fl_X11_274 dX11_others_42 hf (fun v10 hf => ?_)
        refine s_iload_n C dX11_others_45 rfl ?_
        refine s_jn hf (fun j56 e56 hf => ?_)
        have k56 : ∀ (h11 : AH), j56 h11 = some r → WW X h11 0 0 56 [none, none, none, none, none] [] := by
          intro h11 hf
          rw [e56] at hf
          refine s_ldc2 C dX11_others_56 wk_X11_277 ?_
          exact s_lreturn C E dX11_others_59 hf (Nat.le_of_ble_eq_true rfl) (Nat.le_of_ble_eq_true rfl)
        refine s_icmp_ne (tgt := 56) C dX11_others_46 (by decide) hf (fun hf => ?_) (fun hf => ?_)
        · refine s_weak (lv' := [none, none, none, none, none]) trivial ?_
          exact k56 _ hf
        · refine s_aload_n C dX11_others_49 rfl ?_
          refine s_callV (rvf := fun x => some (.int x)) (st := []) (fr := 0) (lo := 0) (mc := 0) (ms := 0) C [5] wc_X5_tellsCell wml_X11_254 wim_X5_tellsCell wsl_5_X5_tellsCell dX11_others_50 (As := []) rfl hf (fun x h' hF => c_X5_tellsCell _ _ _ _ (x, h') hF) rfl (Nat.le_of_ble_eq_true rfl) (room_ok hX (Nat.le_of_ble_eq_true rfl) (Nat.le_of_ble_eq_true rfl)) (cell_ok hX (Nat.le_of_ble_eq_true rfl) (Nat.le_of_ble_eq_true rfl)) (fun v13 h12 hf => ?_)
          refine s_if_ne (tgt := 60) C dX11_others_53 (by decide) hf (fun hf => ?_) (fun hf => ?_)
          · refine s_aload_n C dX11_others_60 rfl ?_
            refine s_callV (rvf := fun x => some (.int x)) (st := []) (fr := 106) (lo := 6131) (mc := 0) (ms := 0) C [5] wc_X5_countSolutions wml_X11_257 wim_X5_countSolutions wsl_5_X5_countSolutions dX11_others_61 (As := []) rfl hf (fun x h' hF => c_X5_countSolutions _ _ _ _ (x, h') hF) rfl (Nat.le_of_ble_eq_true rfl) (room_ok hX (Nat.le_of_ble_eq_true rfl) (Nat.le_of_ble_eq_true rfl)) (cell_ok hX (Nat.le_of_ble_eq_true rfl) (Nat.le_of_ble_eq_true rfl)) (fun v15 h14 hf => ?_)
            refine s_pop C dX11_others_64 c1_i ?_
            refine s_aload_n C dX11_others_65 rfl ?_
            refine s_getL C fl_X11_279 dX11_others_66 hf (fun v16 hf => ?_)
            refine s_lconst C dX11_others_69 (v := (1 : Int64)) (by decide) ?_
            refine s_aload C dX11_others_70 rfl ?_
            refine s_getI C fl_X11_228 dX11_others_72 hf (fun v17 hf => ?_)
            refine s_lshl C dX11_others_75 ?_
            refine s_ldc2 C dX11_others_76 wk_X11_283 ?_
            refine s_lxor C dX11_others_79 ?_
            refine s_land C dX11_others_80 ?_
            exact s_lreturn C E dX11_others_81 hf (Nat.le_of_ble_eq_true rfl) (Nat.le_of_ble_eq_true rfl)
          · refine s_weak (lv' := [none, none, none, none, none]) trivial ?_
            exact k56 _ hf
      · refine s_weak (lv' := [none, none, none, none, none]) trivial ?_
        exact k36 _ hf
/-- HillBoxes.owner(II)I -/
noncomputable def f_X11_owner (o : Option Nat) (a1 : Int32) (a2 : Int32) (h : AH) : Option (Int32 × AH) :=
  cl (f_X11_isCell a1 h) fun v2 h1 =>
  jn (
    some ((-2000000000 : Int32), h1)) fun j18 =>
  if v2 = 0 then
    j18
  else
    if a2 < (-1 : Int32) then
      j18
    else
      if a2 < (10 : Int32) then
        fR h1 [11] o 0 fun v3 =>
        fR h1 [3] v3 1 fun v4 =>
        aI h1 20 v4 a1 fun v5 =>
        fR h1 [11] o 0 fun v6 =>
        fR h1 [3] v6 1 fun v7 =>
        bI h1 20 v7 a1 a2 fun h8 =>
        some (v5, h8)
      else
        j18
set_option maxRecDepth 100000 in
set_option maxHeartbeats 4000000 in
theorem c_X11_owner (l : Launch) (D : DT) (o : Option Nat) (a1 : Int32) (a2 : Int32) (h : AH) (r : Int32 × AH) (hf : f_X11_owner o a1 a2 h = some r) : CM l D yX11_owner cX11_owner 4 (some .int) 1 20 0 0 [.inr (.inr o), .inl a1, .inl a2] h (some (.int r.1)) r.2 := by
  refine CM.of (by decide) (Nat.le_of_ble_eq_true rfl) (fun X hl C hD hX hnm E => ?_)
  subst hl
  subst hD
  have C : CX X RX11 cX11_owner 4 := C
  show WW X h 0 0 0 [some (rB (xD X).1 o), some (.int a1), some (.int a2), none] []
  unfold f_X11_owner at hf
  refine s_iload_n C dX11_owner_0 rfl ?_
  refine s_callS (rvf := fun x => some (.int x)) (st := []) (fr := 0) (lo := 0) (mc := 0) (ms := 0) C wc_X11_isCell wml_X11_56 wst_X11_isCell dX11_owner_1 (As := [.inl a1]) rfl hf (fun x h' hF => c_X11_isCell _ _ _ _ (x, h') hF) rfl (Nat.le_of_ble_eq_true rfl) (room_ok hX (Nat.le_of_ble_eq_true rfl) (Nat.le_of_ble_eq_true rfl)) (cell_ok hX (Nat.le_of_ble_eq_true rfl) (Nat.le_of_ble_eq_true rfl)) (fun v2 h1 hf => ?_)
  refine s_jn hf (fun j18 e18 hf => ?_)
  have k18 : j18  = some r → WW X h1 0 0 18 [none, none, none, none] [] := by
    intro  hf
    rw [e18] at hf
    refine s_ldc C dX11_owner_18 wk_X11_60 ?_
    exact s_ireturn C E dX11_owner_20 hf (Nat.le_of_ble_eq_true rfl) (Nat.le_of_ble_eq_true rfl)
  refine s_if_eq (tgt := 18) C dX11_owner_4 (by decide) hf (fun hf => ?_) (fun hf => ?_)
  · refine s_weak (lv' := [none, none, none, none]) trivial ?_
    exact k18 hf
  · refine s_iload_n C dX11_owner_7 rfl ?_
    refine s_iconst C dX11_owner_8 (v := (-1 : Int32)) (by decide) ?_
    refine s_icmp_lt (tgt := 18) C dX11_owner_9 (by decide) hf (fun hf => ?_) (fun hf => ?_)
    · refine s_weak (lv' := [none, none, none, none]) trivial ?_
      exact k18 hf
    · refine s_iload_n C dX11_owner_12 rfl ?_
      refine s_bipush C dX11_owner_13 (v := (10 : Int32)) (by decide) ?_
      refine s_icmp_lt (tgt := 21) C dX11_owner_15 (by decide) hf (fun hf => ?_) (fun hf => ?_)
      · refine s_aload_n C dX11_owner_21 rfl ?_
        refine s_getR C fl_X11_10 dX11_owner_22 hf (fun v3 hf => ?_)
        refine s_getR C fl_X11_61 dX11_owner_25 hf (fun v4 hf => ?_)
        refine s_iload_n C dX11_owner_28 rfl ?_
        refine s_iaload C dX11_owner_29 hf (fun v5 hf => ?_)
        refine s_istore_n C dX11_owner_30 (by decide) (nc_i rfl) (lv' := [some (rB (xD X).1 o), some (.int a1), some (.int a2), some (.int v5)]) rfl ?_
        refine s_aload_n C dX11_owner_31 rfl ?_
        refine s_getR C fl_X11_10 dX11_owner_32 hf (fun v6 hf => ?_)
        refine s_getR C fl_X11_61 dX11_owner_35 hf (fun v7 hf => ?_)
        refine s_iload_n C dX11_owner_38 rfl ?_
        refine s_iload_n C dX11_owner_39 rfl ?_
        refine s_iastore C dX11_owner_40 hf (fun h8 hf => ?_)
        refine s_iload_n C dX11_owner_41 rfl ?_
        exact s_ireturn C E dX11_owner_42 hf (Nat.le_of_ble_eq_true rfl) (Nat.le_of_ble_eq_true rfl)
      · refine s_weak (lv' := [none, none, none, none]) trivial ?_
        exact k18 hf
/-- HillBoxes$Shelf.isEmpty()Z -/
noncomputable def f_X7_isEmpty (o : Option Nat) (h : AH) : Option (Int32 × AH) :=
  fR h [7] o 0 fun v1 =>
  jn (fun (x2 : Int32) =>
    rz x2 h) fun j19 =>
  jn (
    j19 (0 : Int32)) fun j18 =>
  if v1 = none then
    fI h [7] o 1 fun v3 =>
    if v3 = 0 then
      j19 (1 : Int32)
    else
      j18
  else
    j18
set_option maxRecDepth 100000 in
set_option maxHeartbeats 4000000 in
theorem c_X7_isEmpty (l : Launch) (D : DT) (o : Option Nat) (h : AH) (r : Int32 × AH) (hf : f_X7_isEmpty o h = some r) : CM l D yX7_isEmpty cX7_isEmpty 1 (some .boolean) 0 0 0 0 [.inr (.inr o)] h (some (.int r.1)) r.2 := by
  refine CM.of (by decide) (Nat.le_of_ble_eq_true rfl) (fun X hl C hD hX hnm E => ?_)
  subst hl
  subst hD
  have C : CX X RX7 cX7_isEmpty 1 := C
  show WW X h 0 0 0 [some (rB (xD X).1 o)] []
  unfold f_X7_isEmpty at hf
  refine s_aload_n C dX7_isEmpty_0 rfl ?_
  refine s_getR C fl_X7_15 dX7_isEmpty_1 hf (fun v1 hf => ?_)
  refine s_jn hf (fun j19 e19 hf => ?_)
  have k19 : ∀ (x2 : Int32), j19 x2 = some r → WW X h 0 0 19 [none] [.int x2] := by
    intro x2 hf
    rw [e19] at hf
    exact s_zreturn C E dX7_isEmpty_19 hf (Nat.le_of_ble_eq_true rfl) (Nat.le_of_ble_eq_true rfl)
  refine s_jn hf (fun j18 e18 hf => ?_)
  have k18 : j18  = some r → WW X h 0 0 18 [none] [] := by
    intro  hf
    rw [e18] at hf
    refine s_iconst C dX7_isEmpty_18 (v := (0 : Int32)) (by decide) ?_
    exact k19 _ hf
  refine s_ifnonnull (tgt := 18) C dX7_isEmpty_4 (by decide) hf (fun hf => ?_) (fun hf => ?_)
  · refine s_weak (lv' := [none]) trivial ?_
    exact k18 hf
  · refine s_aload_n C dX7_isEmpty_7 rfl ?_
    refine s_getI C fl_X7_19 dX7_isEmpty_8 hf (fun v3 hf => ?_)
    refine s_if_ne (tgt := 18) C dX7_isEmpty_11 (by decide) hf (fun hf => ?_) (fun hf => ?_)
    · refine s_weak (lv' := [none]) trivial ?_
      exact k18 hf
    · refine s_iconst C dX7_isEmpty_14 (v := (1 : Int32)) (by decide) ?_
      refine s_goto (tgt := 19) C dX7_isEmpty_15 (by decide) ?_
      refine s_weak (lv' := [none]) trivial ?_
      exact k19 _ hf
/-- HillBoxes$Shelf.isRowOf(I)Z -/
noncomputable def f_X7_isRowOf (o : Option Nat) (a1 : Int32) (h : AH) : Option (Int32 × AH) :=
  fI h [7] o 1 fun v1 =>
  jn (fun (x2 : Int32) =>
    rz x2 h) fun j20 =>
  jn (
    j20 (0 : Int32)) fun j19 =>
  if v1 = 0 then
    j19
  else
    fI h [7] o 2 fun v3 =>
    if v3 = a1 then
      j20 (1 : Int32)
    else
      j19
set_option maxRecDepth 100000 in
set_option maxHeartbeats 4000000 in
theorem c_X7_isRowOf (l : Launch) (D : DT) (o : Option Nat) (a1 : Int32) (h : AH) (r : Int32 × AH) (hf : f_X7_isRowOf o a1 h = some r) : CM l D yX7_isRowOf cX7_isRowOf 2 (some .boolean) 0 0 0 0 [.inr (.inr o), .inl a1] h (some (.int r.1)) r.2 := by
  refine CM.of (by decide) (Nat.le_of_ble_eq_true rfl) (fun X hl C hD hX hnm E => ?_)
  subst hl
  subst hD
  have C : CX X RX7 cX7_isRowOf 2 := C
  show WW X h 0 0 0 [some (rB (xD X).1 o), some (.int a1)] []
  unfold f_X7_isRowOf at hf
  refine s_aload_n C dX7_isRowOf_0 rfl ?_
  refine s_getI C fl_X7_19 dX7_isRowOf_1 hf (fun v1 hf => ?_)
  refine s_jn hf (fun j20 e20 hf => ?_)
  have k20 : ∀ (x2 : Int32), j20 x2 = some r → WW X h 0 0 20 [none, none] [.int x2] := by
    intro x2 hf
    rw [e20] at hf
    exact s_zreturn C E dX7_isRowOf_20 hf (Nat.le_of_ble_eq_true rfl) (Nat.le_of_ble_eq_true rfl)
  refine s_jn hf (fun j19 e19 hf => ?_)
  have k19 : j19  = some r → WW X h 0 0 19 [none, none] [] := by
    intro  hf
    rw [e19] at hf
    refine s_iconst C dX7_isRowOf_19 (v := (0 : Int32)) (by decide) ?_
    exact k20 _ hf
  refine s_if_eq (tgt := 19) C dX7_isRowOf_4 (by decide) hf (fun hf => ?_) (fun hf => ?_)
  · refine s_weak (lv' := [none, none]) trivial ?_
    exact k19 hf
  · refine s_aload_n C dX7_isRowOf_7 rfl ?_
    refine s_getI C fl_X7_23 dX7_isRowOf_8 hf (fun v3 hf => ?_)
    refine s_iload_n C dX7_isRowOf_11 rfl ?_
    refine s_icmp_ne (tgt := 19) C dX7_isRowOf_12 (by decide) hf (fun hf => ?_) (fun hf => ?_)
    · refine s_weak (lv' := [none, none]) trivial ?_
      exact k19 hf
    · refine s_iconst C dX7_isRowOf_15 (v := (1 : Int32)) (by decide) ?_
      refine s_goto (tgt := 20) C dX7_isRowOf_16 (by decide) ?_
      refine s_weak (lv' := [none, none]) trivial ?_
      exact k20 _ hf
/-- HillBoxes.paper(IIII)I -/
noncomputable def f_X11_paper (o : Option Nat) (a1 : Int32) (a2 : Int32) (a3 : Int32) (a4 : Int32) (h : AH) : Option (Int32 × AH) :=
  fR h [11] o 0 fun v1 =>
  rO h [3] v1 <| cl (f_X3_boxAt v1 a1 h) fun v3 h2 =>
  rO h2 [11] o <| cl (f_X11_shelfAt o a2 h2) fun v5 h4 =>
  jn (
    some ((-1 : Int32), h4)) fun j40 =>
  if v3 = none then
    j40
  else
    if v5 = none then
      j40
    else
      if a4 < (1 : Int32) then
        j40
      else
        if a4 ≤ (40 : Int32) then
          rO h4 [7] v5 <| cl (f_X7_isEmpty v5 h4) fun v7 h6 =>
          jn (fun (h8 : AH) =>
            pI h8 [1] v3 15 (0 : Int32) fun h9 =>
            pZ h9 [1] v3 16 (1 : Int32) fun h10 =>
            lp (fun _ _ => none) (fun (L77 : Int32 → AH → Option (Int32 × AH)) (x11 : Int32) (h12 : AH) =>
              jn (fun (h13 : AH) =>
                fI h13 [1] v3 15 fun v14 =>
                some (v14, h13)) fun j146 =>
              if a4 ≤ x11 then
                j146 h12
              else
                rO h12 [7] v5 <| cl (f_X7_elementOr v5 (a3.toInt64 + x11.toInt64) (-1 : Int64) h12) fun v16 h15 =>
                fR h15 [11] o 0 fun v17 =>
                rO h15 [3] v17 <| cl (f_X3_finderAt v17 v16.toInt32 h15) fun v19 h18 =>
                if v19 = none then
                  j146 h18
                else
                  fR h18 [1] v3 5 fun v20 =>
                  fI h18 [1] v3 15 fun v21 =>
                  bI h18 20 v20 v21 v16.toInt32 fun h22 =>
                  fI h22 [1] v3 15 fun v23 =>
                  pI h22 [1] v3 15 (v23 + (1 : Int32)) fun h24 =>
                  L77 (x11 + 1) h24) lpN (0 : Int32) h10) fun j62 =>
          if v7 = 0 then
            rO h6 [7] v5 <| cl (f_X7_isRowOf v5 (1 : Int32) h6) fun v26 h25 =>
            if v26 = 0 then
              some ((-12 : Int32), h25)
            else
              j62 h25
          else
            j62 h6
        else
          j40
set_option maxRecDepth 100000 in
set_option maxHeartbeats 4000000 in
theorem c_X11_paper (l : Launch) (D : DT) (o : Option Nat) (a1 : Int32) (a2 : Int32) (a3 : Int32) (a4 : Int32) (h : AH) (r : Int32 × AH) (hf : f_X11_paper o a1 a2 a3 a4 h = some r) : CM l D yX11_paper cX11_paper 9 (some .int) 2 47 0 0 [.inr (.inr o), .inl a1, .inl a2, .inl a3, .inl a4] h (some (.int r.1)) r.2 := by
  refine CM.of (by decide) (Nat.le_of_ble_eq_true rfl) (fun X hl C hD hX hnm E => ?_)
  subst hl
  subst hD
  have C : CX X RX11 cX11_paper 9 := C
  show WW X h 0 0 0 [some (rB (xD X).1 o), some (.int a1), some (.int a2), some (.int a3), some (.int a4), none, none, none, none] []
  unfold f_X11_paper at hf
  refine s_aload_n C dX11_paper_0 rfl ?_
  refine s_getR C fl_X11_10 dX11_paper_1 hf (fun v1 hf => ?_)
  refine s_iload_n C dX11_paper_4 rfl ?_
  refine s_callV (rvf := fun x => some (rB (xD X).1 x)) (st := []) (fr := 0) (lo := 0) (mc := 0) (ms := 0) C [3] wc_X3_boxAt wml_X11_130 wim_X3_boxAt wsl_3_X3_boxAt dX11_paper_5 (As := [.inl a1]) rfl hf (fun x h' hF => c_X3_boxAt _ _ _ _ _ (x, h') hF) rfl (Nat.le_of_ble_eq_true rfl) (room_ok hX (Nat.le_of_ble_eq_true rfl) (Nat.le_of_ble_eq_true rfl)) (cell_ok hX (Nat.le_of_ble_eq_true rfl) (Nat.le_of_ble_eq_true rfl)) (fun v3 h2 hf => ?_)
  refine s_astore C dX11_paper_8 (by decide) (nc_i rfl) (lv' := [some (rB (xD X).1 o), some (.int a1), some (.int a2), some (.int a3), some (.int a4), some (rB (xD X).1 v3), none, none, none]) rfl ?_
  refine s_aload_n C dX11_paper_10 rfl ?_
  refine s_iload_n C dX11_paper_11 rfl ?_
  refine s_callV (rvf := fun x => some (rB (xD X).1 x)) (st := []) (fr := 0) (lo := 0) (mc := 0) (ms := 0) C [11] wc_X11_shelfAt wml_X11_238 wim_X11_shelfAt wsl_11_X11_shelfAt dX11_paper_12 (As := [.inl a2]) rfl hf (fun x h' hF => c_X11_shelfAt _ _ _ _ _ (x, h') hF) rfl (Nat.le_of_ble_eq_true rfl) (room_ok hX (Nat.le_of_ble_eq_true rfl) (Nat.le_of_ble_eq_true rfl)) (cell_ok hX (Nat.le_of_ble_eq_true rfl) (Nat.le_of_ble_eq_true rfl)) (fun v5 h4 hf => ?_)
  refine s_astore C dX11_paper_15 (by decide) (nc_r rfl) (lv' := [some (rB (xD X).1 o), some (.int a1), some (.int a2), some (.int a3), some (.int a4), some (rB (xD X).1 v3), some (rB (xD X).1 v5), none, none]) rfl ?_
  refine s_aload C dX11_paper_17 rfl ?_
  refine s_jn hf (fun j40 e40 hf => ?_)
  have k40 : j40  = some r → WW X h4 0 0 40 [none, none, none, none, none, none, none, none, none] [] := by
    intro  hf
    rw [e40] at hf
    refine s_iconst C dX11_paper_40 (v := (-1 : Int32)) (by decide) ?_
    exact s_ireturn C E dX11_paper_41 hf (Nat.le_of_ble_eq_true rfl) (Nat.le_of_ble_eq_true rfl)
  refine s_ifnull (tgt := 40) C dX11_paper_19 (by decide) hf (fun hf => ?_) (fun hf => ?_)
  · refine s_weak (lv' := [none, none, none, none, none, none, none, none, none]) trivial ?_
    exact k40 hf
  · refine s_aload C dX11_paper_22 rfl ?_
    refine s_ifnull (tgt := 40) C dX11_paper_24 (by decide) hf (fun hf => ?_) (fun hf => ?_)
    · refine s_weak (lv' := [none, none, none, none, none, none, none, none, none]) trivial ?_
      exact k40 hf
    · refine s_iload C dX11_paper_27 rfl ?_
      refine s_iconst C dX11_paper_29 (v := (1 : Int32)) (by decide) ?_
      refine s_icmp_lt (tgt := 40) C dX11_paper_30 (by decide) hf (fun hf => ?_) (fun hf => ?_)
      · refine s_weak (lv' := [none, none, none, none, none, none, none, none, none]) trivial ?_
        exact k40 hf
      · refine s_iload C dX11_paper_33 rfl ?_
        refine s_bipush C dX11_paper_35 (v := (40 : Int32)) (by decide) ?_
        refine s_icmp_le (tgt := 42) C dX11_paper_37 (by decide) hf (fun hf => ?_) (fun hf => ?_)
        · refine s_aload C dX11_paper_42 rfl ?_
          refine s_callV (rvf := fun x => some (.int x)) (st := []) (fr := 0) (lo := 0) (mc := 0) (ms := 0) C [7] wc_X7_isEmpty wml_X11_244 wim_X7_isEmpty wsl_7_X7_isEmpty dX11_paper_44 (As := []) rfl hf (fun x h' hF => c_X7_isEmpty _ _ _ _ (x, h') hF) rfl (Nat.le_of_ble_eq_true rfl) (room_ok hX (Nat.le_of_ble_eq_true rfl) (Nat.le_of_ble_eq_true rfl)) (cell_ok hX (Nat.le_of_ble_eq_true rfl) (Nat.le_of_ble_eq_true rfl)) (fun v7 h6 hf => ?_)
          refine s_jn hf (fun j62 e62 hf => ?_)
          have k62 : ∀ (h8 : AH), j62 h8 = some r → WW X h8 0 0 62 [some (rB (xD X).1 o), none, none, some (.int a3), some (.int a4), some (rB (xD X).1 v3), some (rB (xD X).1 v5), none, none] [] := by
            intro h8 hf
            rw [e62] at hf
            refine s_aload C dX11_paper_62 rfl ?_
            refine s_iconst C dX11_paper_64 (v := (0 : Int32)) (by decide) ?_
            refine s_putI C fl_X11_289 (by decide) dX11_paper_65 hf (fun h9 hf => ?_)
            refine s_aload C dX11_paper_68 rfl ?_
            refine s_iconst C dX11_paper_70 (v := (1 : Int32)) (by decide) ?_
            refine s_putZ C fl_X11_292 (by decide) dX11_paper_71 hf (fun h10 hf => ?_)
            refine s_iconst C dX11_paper_74 (v := (0 : Int32)) (by decide) ?_
            refine s_istore C dX11_paper_75 (by decide) (nc_r rfl) (lv' := [some (rB (xD X).1 o), none, none, some (.int a3), some (.int a4), some (rB (xD X).1 v3), some (rB (xD X).1 v5), some (.int (0 : Int32)), none]) rfl ?_
            refine s_lp2 hf (fun G77 z77 q77 hf => ?_)
            have k77 : ∀ (n : Nat) (x11 : Int32) (h12 : AH), G77 n x11 h12 = some r → WW X h12 0 0 77 [some (rB (xD X).1 o), none, none, some (.int a3), some (.int a4), some (rB (xD X).1 v3), some (rB (xD X).1 v5), some (.int x11), none] [] := by
              intro n
              induction n with
              | zero =>
                intro x11 h12 hf
                rw [z77] at hf
                cases hf
              | succ n ih77 =>
                intro x11 h12 hf
                have hf := (q77 n x11 h12).symm.trans hf
                refine s_iload C dX11_paper_77 rfl ?_
                refine s_iload C dX11_paper_79 rfl ?_
                refine s_jn hf (fun j146 e146 hf => ?_)
                have k146 : ∀ (h13 : AH), j146 h13 = some r → WW X h13 0 0 146 [none, none, none, none, none, some (rB (xD X).1 v3), none, none, none] [] := by
                  intro h13 hf
                  rw [e146] at hf
                  refine s_aload C dX11_paper_146 rfl ?_
                  refine s_getI C fl_X11_289 dX11_paper_148 hf (fun v14 hf => ?_)
                  exact s_ireturn C E dX11_paper_151 hf (Nat.le_of_ble_eq_true rfl) (Nat.le_of_ble_eq_true rfl)
                refine s_icmp_ge (tgt := 146) C dX11_paper_81 (by decide) hf (fun hf => ?_) (fun hf => ?_)
                · refine s_weak (lv' := [none, none, none, none, none, some (rB (xD X).1 v3), none, none, none]) ⟨rfl, trivial⟩ ?_
                  exact k146 _ hf
                · refine s_aload C dX11_paper_84 rfl ?_
                  refine s_iload_n C dX11_paper_86 rfl ?_
                  refine s_i2l C dX11_paper_87 ?_
                  refine s_iload C dX11_paper_88 rfl ?_
                  refine s_i2l C dX11_paper_90 ?_
                  refine s_ladd C dX11_paper_91 ?_
                  refine s_ldc2 C dX11_paper_92 wk_X11_283 ?_
                  refine s_callV (rvf := fun x => some (.long x)) (st := []) (fr := 1) (lo := 23) (mc := 0) (ms := 0) C [7] wc_X7_elementOr wml_X11_296 wim_X7_elementOr wsl_7_X7_elementOr dX11_paper_95 (As := [.inr (.inl (a3.toInt64 + x11.toInt64)), .inr (.inl (-1 : Int64))]) rfl hf (fun x h' hF => c_X7_elementOr _ _ _ _ _ _ (x, h') hF) rfl (Nat.le_of_ble_eq_true rfl) (room_ok hX (Nat.le_of_ble_eq_true rfl) (Nat.le_of_ble_eq_true rfl)) (cell_ok hX (Nat.le_of_ble_eq_true rfl) (Nat.le_of_ble_eq_true rfl)) (fun v16 h15 hf => ?_)
                  refine s_l2i C dX11_paper_98 ?_
                  refine s_istore C dX11_paper_99 (by decide) (nc_i rfl) (lv' := [some (rB (xD X).1 o), none, none, some (.int a3), some (.int a4), some (rB (xD X).1 v3), some (rB (xD X).1 v5), some (.int x11), some (.int v16.toInt32)]) rfl ?_
                  refine s_aload_n C dX11_paper_101 rfl ?_
                  refine s_getR C fl_X11_10 dX11_paper_102 hf (fun v17 hf => ?_)
                  refine s_iload C dX11_paper_105 rfl ?_
                  refine s_callV (rvf := fun x => some (rB (xD X).1 x)) (st := []) (fr := 0) (lo := 0) (mc := 0) (ms := 0) C [3] wc_X3_finderAt wml_X11_90 wim_X3_finderAt wsl_3_X3_finderAt dX11_paper_107 (As := [.inl v16.toInt32]) rfl hf (fun x h' hF => c_X3_finderAt _ _ _ _ _ (x, h') hF) rfl (Nat.le_of_ble_eq_true rfl) (room_ok hX (Nat.le_of_ble_eq_true rfl) (Nat.le_of_ble_eq_true rfl)) (cell_ok hX (Nat.le_of_ble_eq_true rfl) (Nat.le_of_ble_eq_true rfl)) (fun v19 h18 hf => ?_)
                  refine s_ifnonnull (tgt := 116) C dX11_paper_110 (by decide) hf (fun hf => ?_) (fun hf => ?_)
                  · refine s_aload C dX11_paper_116 rfl ?_
                    refine s_getR C fl_X11_300 dX11_paper_118 hf (fun v20 hf => ?_)
                    refine s_aload C dX11_paper_121 rfl ?_
                    refine s_getI C fl_X11_289 dX11_paper_123 hf (fun v21 hf => ?_)
                    refine s_iload C dX11_paper_126 rfl ?_
                    refine s_iastore C dX11_paper_128 hf (fun h22 hf => ?_)
                    refine s_aload C dX11_paper_129 rfl ?_
                    refine s_dup C dX11_paper_131 c1_r ?_
                    refine s_getI C fl_X11_289 dX11_paper_132 hf (fun v23 hf => ?_)
                    refine s_iconst C dX11_paper_135 (v := (1 : Int32)) (by decide) ?_
                    refine s_iadd C dX11_paper_136 ?_
                    refine s_putI C fl_X11_289 (by decide) dX11_paper_137 hf (fun h24 hf => ?_)
                    refine s_iinc C dX11_paper_140 (v := (x11 + 1)) rfl rfl (by decide) (nc_r rfl) (lv' := [some (rB (xD X).1 o), none, none, some (.int a3), some (.int a4), some (rB (xD X).1 v3), some (rB (xD X).1 v5), some (.int (x11 + 1)), some (.int v16.toInt32)]) rfl ?_
                    refine s_goto (tgt := 77) C dX11_paper_143 (by decide) ?_
                    refine s_weak (lv' := [some (rB (xD X).1 o), none, none, some (.int a3), some (.int a4), some (rB (xD X).1 v3), some (rB (xD X).1 v5), some (.int (x11 + 1)), none]) ⟨rfl, ⟨rfl, ⟨rfl, ⟨rfl, ⟨rfl, ⟨rfl, trivial⟩⟩⟩⟩⟩⟩ ?_
                    exact ih77 _ _ hf
                  · refine s_goto (tgt := 146) C dX11_paper_113 (by decide) ?_
                    refine s_weak (lv' := [none, none, none, none, none, some (rB (xD X).1 v3), none, none, none]) ⟨rfl, trivial⟩ ?_
                    exact k146 _ hf
            exact k77 lpN _ _ hf
          refine s_if_ne (tgt := 62) C dX11_paper_47 (by decide) hf (fun hf => ?_) (fun hf => ?_)
          · refine s_weak (lv' := [some (rB (xD X).1 o), none, none, some (.int a3), some (.int a4), some (rB (xD X).1 v3), some (rB (xD X).1 v5), none, none]) ⟨rfl, ⟨rfl, ⟨rfl, ⟨rfl, ⟨rfl, trivial⟩⟩⟩⟩⟩ ?_
            exact k62 _ hf
          · refine s_aload C dX11_paper_50 rfl ?_
            refine s_iconst C dX11_paper_52 (v := (1 : Int32)) (by decide) ?_
            refine s_callV (rvf := fun x => some (.int x)) (st := []) (fr := 0) (lo := 0) (mc := 0) (ms := 0) C [7] wc_X7_isRowOf wml_X11_247 wim_X7_isRowOf wsl_7_X7_isRowOf dX11_paper_53 (As := [.inl (1 : Int32)]) rfl hf (fun x h' hF => c_X7_isRowOf _ _ _ _ _ (x, h') hF) rfl (Nat.le_of_ble_eq_true rfl) (room_ok hX (Nat.le_of_ble_eq_true rfl) (Nat.le_of_ble_eq_true rfl)) (cell_ok hX (Nat.le_of_ble_eq_true rfl) (Nat.le_of_ble_eq_true rfl)) (fun v26 h25 hf => ?_)
            refine s_if_ne (tgt := 62) C dX11_paper_56 (by decide) hf (fun hf => ?_) (fun hf => ?_)
            · refine s_weak (lv' := [some (rB (xD X).1 o), none, none, some (.int a3), some (.int a4), some (rB (xD X).1 v3), some (rB (xD X).1 v5), none, none]) ⟨rfl, ⟨rfl, ⟨rfl, ⟨rfl, ⟨rfl, trivial⟩⟩⟩⟩⟩ ?_
              exact k62 _ hf
            · refine s_bipush C dX11_paper_59 (v := (-12 : Int32)) (by decide) ?_
              exact s_ireturn C E dX11_paper_61 hf (Nat.le_of_ble_eq_true rfl) (Nat.le_of_ble_eq_true rfl)
        · refine s_weak (lv' := [none, none, none, none, none, none, none, none, none]) trivial ?_
          exact k40 hf
/-- HillBoxes$Shelf.refusalOf(I)I -/
noncomputable def f_X7_refusalOf (o : Option Nat) (a1 : Int32) (h : AH) : Option (Int32 × AH) :=
  rO h [7] o <| cl (f_X7_isEmpty o h) fun v2 h1 =>
  if v2 = 0 then
    fI h1 [7] o 1 fun v3 =>
    if v3 = 0 then
      some ((-12 : Int32), h1)
    else
      rO h1 [7] o <| cl (f_X7_hasPlaces o a1.toInt64 (1 : Int32) h1) fun v5 h4 =>
      jn (fun (x6 : Int32) =>
        some (x6, h4)) fun j36 =>
      if v5 = 0 then
        j36 (-13 : Int32)
      else
        j36 (0 : Int32)
  else
    some ((-11 : Int32), h1)
set_option maxRecDepth 100000 in
set_option maxHeartbeats 4000000 in
theorem c_X7_refusalOf (l : Launch) (D : DT) (o : Option Nat) (a1 : Int32) (h : AH) (r : Int32 × AH) (hf : f_X7_refusalOf o a1 h = some r) : CM l D yX7_refusalOf cX7_refusalOf 2 (some .int) 1 23 0 0 [.inr (.inr o), .inl a1] h (some (.int r.1)) r.2 := by
  refine CM.of (by decide) (Nat.le_of_ble_eq_true rfl) (fun X hl C hD hX hnm E => ?_)
  subst hl
  subst hD
  have C : CX X RX7 cX7_refusalOf 2 := C
  show WW X h 0 0 0 [some (rB (xD X).1 o), some (.int a1)] []
  unfold f_X7_refusalOf at hf
  refine s_aload_n C dX7_refusalOf_0 rfl ?_
  refine s_callV (rvf := fun x => some (.int x)) (st := []) (fr := 0) (lo := 0) (mc := 0) (ms := 0) C [7] wc_X7_isEmpty wml_X7_40 wim_X7_isEmpty wsl_7_X7_isEmpty dX7_refusalOf_1 (As := []) rfl hf (fun x h' hF => c_X7_isEmpty _ _ _ _ (x, h') hF) rfl (Nat.le_of_ble_eq_true rfl) (room_ok hX (Nat.le_of_ble_eq_true rfl) (Nat.le_of_ble_eq_true rfl)) (cell_ok hX (Nat.le_of_ble_eq_true rfl) (Nat.le_of_ble_eq_true rfl)) (fun v2 h1 hf => ?_)
  refine s_if_eq (tgt := 10) C dX7_refusalOf_4 (by decide) hf (fun hf => ?_) (fun hf => ?_)
  · refine s_aload_n C dX7_refusalOf_10 rfl ?_
    refine s_getI C fl_X7_19 dX7_refusalOf_11 hf (fun v3 hf => ?_)
    refine s_if_ne (tgt := 20) C dX7_refusalOf_14 (by decide) hf (fun hf => ?_) (fun hf => ?_)
    · refine s_aload_n C dX7_refusalOf_20 rfl ?_
      refine s_iload_n C dX7_refusalOf_21 rfl ?_
      refine s_i2l C dX7_refusalOf_22 ?_
      refine s_iconst C dX7_refusalOf_23 (v := (1 : Int32)) (by decide) ?_
      refine s_callV (rvf := fun x => some (.int x)) (st := []) (fr := 0) (lo := 0) (mc := 0) (ms := 0) C [7] wc_X7_hasPlaces wml_X7_36 wim_X7_hasPlaces wsl_7_X7_hasPlaces dX7_refusalOf_24 (As := [.inr (.inl a1.toInt64), .inl (1 : Int32)]) rfl hf (fun x h' hF => c_X7_hasPlaces _ _ _ _ _ _ (x, h') hF) rfl (Nat.le_of_ble_eq_true rfl) (room_ok hX (Nat.le_of_ble_eq_true rfl) (Nat.le_of_ble_eq_true rfl)) (cell_ok hX (Nat.le_of_ble_eq_true rfl) (Nat.le_of_ble_eq_true rfl)) (fun v5 h4 hf => ?_)
      refine s_jn hf (fun j36 e36 hf => ?_)
      have k36 : ∀ (x6 : Int32), j36 x6 = some r → WW X h4 0 0 36 [none, none] [.int x6] := by
        intro x6 hf
        rw [e36] at hf
        exact s_ireturn C E dX7_refusalOf_36 hf (Nat.le_of_ble_eq_true rfl) (Nat.le_of_ble_eq_true rfl)
      refine s_if_eq (tgt := 34) C dX7_refusalOf_27 (by decide) hf (fun hf => ?_) (fun hf => ?_)
      · refine s_bipush C dX7_refusalOf_34 (v := (-13 : Int32)) (by decide) ?_
        refine s_weak (lv' := [none, none]) trivial ?_
        exact k36 _ hf
      · refine s_iconst C dX7_refusalOf_30 (v := (0 : Int32)) (by decide) ?_
        refine s_goto (tgt := 36) C dX7_refusalOf_31 (by decide) ?_
        refine s_weak (lv' := [none, none]) trivial ?_
        exact k36 _ hf
    · refine s_bipush C dX7_refusalOf_17 (v := (-12 : Int32)) (by decide) ?_
      exact s_ireturn C E dX7_refusalOf_19 hf (Nat.le_of_ble_eq_true rfl) (Nat.le_of_ble_eq_true rfl)
  · refine s_bipush C dX7_refusalOf_7 (v := (-11 : Int32)) (by decide) ?_
    exact s_ireturn C E dX7_refusalOf_9 hf (Nat.le_of_ble_eq_true rfl) (Nat.le_of_ble_eq_true rfl)
/-- HillBoxes$Shelf.narrowed(J)J -/
noncomputable def f_X7_narrowed (o : Option Nat) (a1 : Int64) (h : AH) : Option (Int64 × AH) :=
  fI h [7] o 2 fun v1 =>
  if v1 = 0 then
    some (a1.toInt32.toInt8.toInt32.toInt64, h)
  else
  if v1 = 1 then
    some (a1.toInt32.toInt16.toInt32.toInt64, h)
  else
  if v1 = 2 then
    some (a1.toInt32.toInt64, h)
  else
  if v1 = 3 then
    some (a1, h)
  else
    jn (fun (x2 : Int64) =>
      some (x2, h)) fun j63 =>
    if (lg_cmp a1 (0 : Int64)) = 0 then
      j63 (0 : Int64)
    else
      j63 (1 : Int64)
set_option maxRecDepth 100000 in
set_option maxHeartbeats 4000000 in
theorem c_X7_narrowed (l : Launch) (D : DT) (o : Option Nat) (a1 : Int64) (h : AH) (r : Int64 × AH) (hf : f_X7_narrowed o a1 h = some r) : CM l D yX7_narrowed cX7_narrowed 3 (some .long) 0 0 0 0 [.inr (.inr o), .inr (.inl a1)] h (some (.long r.1)) r.2 := by
  refine CM.of (by decide) (Nat.le_of_ble_eq_true rfl) (fun X hl C hD hX hnm E => ?_)
  subst hl
  subst hD
  have C : CX X RX7 cX7_narrowed 3 := C
  show WW X h 0 0 0 [some (rB (xD X).1 o), some (.long a1), none] []
  unfold f_X7_narrowed at hf
  refine s_aload_n C dX7_narrowed_0 rfl ?_
  refine s_getI C fl_X7_23 dX7_narrowed_1 hf (fun v1 hf => ?_)
  refine s_ite hf (fun e hf => ?_) (fun n0 hf => ?_)
  · refine s_tsw1 (tgt := 36) C dX7_narrowed_4 e (by decide) (by decide) rfl (by decide) ?_
    refine s_lload_n C dX7_narrowed_36 rfl ?_
    refine s_l2i C dX7_narrowed_37 ?_
    refine s_i2b C dX7_narrowed_38 ?_
    refine s_i2l C dX7_narrowed_39 ?_
    exact s_lreturn C E dX7_narrowed_40 hf (Nat.le_of_ble_eq_true rfl) (Nat.le_of_ble_eq_true rfl)
  refine s_ite hf (fun e hf => ?_) (fun n1 hf => ?_)
  · refine s_tsw1 (tgt := 41) C dX7_narrowed_4 e (by decide) (by decide) rfl (by decide) ?_
    refine s_lload_n C dX7_narrowed_41 rfl ?_
    refine s_l2i C dX7_narrowed_42 ?_
    refine s_i2s C dX7_narrowed_43 ?_
    refine s_i2l C dX7_narrowed_44 ?_
    exact s_lreturn C E dX7_narrowed_45 hf (Nat.le_of_ble_eq_true rfl) (Nat.le_of_ble_eq_true rfl)
  refine s_ite hf (fun e hf => ?_) (fun n2 hf => ?_)
  · refine s_tsw1 (tgt := 46) C dX7_narrowed_4 e (by decide) (by decide) rfl (by decide) ?_
    refine s_lload_n C dX7_narrowed_46 rfl ?_
    refine s_l2i C dX7_narrowed_47 ?_
    refine s_i2l C dX7_narrowed_48 ?_
    exact s_lreturn C E dX7_narrowed_49 hf (Nat.le_of_ble_eq_true rfl) (Nat.le_of_ble_eq_true rfl)
  refine s_ite hf (fun e hf => ?_) (fun n3 hf => ?_)
  · refine s_tsw1 (tgt := 50) C dX7_narrowed_4 e (by decide) (by decide) rfl (by decide) ?_
    refine s_lload_n C dX7_narrowed_50 rfl ?_
    exact s_lreturn C E dX7_narrowed_51 hf (Nat.le_of_ble_eq_true rfl) (Nat.le_of_ble_eq_true rfl)
  refine s_tswD (tgt := 52) C dX7_narrowed_4 (by have n0x := n32 (i := 0) n0 rfl; have n1x := n32 (i := 1) n1 rfl; have n2x := n32 (i := 2) n2 rfl; have n3x := n32 (i := 3) n3 rfl; omega) (by decide) ?_
  refine s_lload_n C dX7_narrowed_52 rfl ?_
  refine s_lconst C dX7_narrowed_53 (v := (0 : Int64)) (by decide) ?_
  refine s_lcmp C dX7_narrowed_54 ?_
  refine s_jn hf (fun j63 e63 hf => ?_)
  have k63 : ∀ (x2 : Int64), j63 x2 = some r → WW X h 0 0 63 [none, none, none] [.long x2] := by
    intro x2 hf
    rw [e63] at hf
    exact s_lreturn C E dX7_narrowed_63 hf (Nat.le_of_ble_eq_true rfl) (Nat.le_of_ble_eq_true rfl)
  refine s_if_eq (tgt := 62) C dX7_narrowed_55 (by decide) hf (fun hf => ?_) (fun hf => ?_)
  · refine s_lconst C dX7_narrowed_62 (v := (0 : Int64)) (by decide) ?_
    refine s_weak (lv' := [none, none, none]) trivial ?_
    exact k63 _ hf
  · refine s_lconst C dX7_narrowed_58 (v := (1 : Int64)) (by decide) ?_
    refine s_goto (tgt := 63) C dX7_narrowed_59 (by decide) ?_
    refine s_weak (lv' := [none, none, none]) trivial ?_
    exact k63 _ hf
/-- HillBoxes$Shelf.setElement(IJ)V -/
noncomputable def f_X7_setElement (o : Option Nat) (a1 : Int32) (a2 : Int64) (h : AH) : Option (Unit × AH) :=
  rO h [7] o <| cl (f_X7_hasPlaces o a1.toInt64 (1 : Int32) h) fun v2 h1 =>
  jn (fun (h3 : AH) =>
    some ((), h3)) fun j21 =>
  if v2 = 0 then
    j21 h1
  else
    fR h1 [7] o 4 fun v4 =>
    rO h1 [7] o <| cl (f_X7_narrowed o a2 h1) fun v6 h5 =>
    bL h5 24 v4 a1 v6 fun h7 =>
    j21 h7
set_option maxRecDepth 100000 in
set_option maxHeartbeats 4000000 in
theorem c_X7_setElement (l : Launch) (D : DT) (o : Option Nat) (a1 : Int32) (a2 : Int64) (h : AH) (r : Unit × AH) (hf : f_X7_setElement o a1 a2 h = some r) : CM l D yX7_setElement cX7_setElement 4 none 1 23 0 0 [.inr (.inr o), .inl a1, .inr (.inl a2)] h none r.2 := by
  refine CM.of (by decide) (Nat.le_of_ble_eq_true rfl) (fun X hl C hD hX hnm E => ?_)
  subst hl
  subst hD
  have C : CX X RX7 cX7_setElement 4 := C
  show WW X h 0 0 0 [some (rB (xD X).1 o), some (.int a1), some (.long a2), none] []
  unfold f_X7_setElement at hf
  refine s_aload_n C dX7_setElement_0 rfl ?_
  refine s_iload_n C dX7_setElement_1 rfl ?_
  refine s_i2l C dX7_setElement_2 ?_
  refine s_iconst C dX7_setElement_3 (v := (1 : Int32)) (by decide) ?_
  refine s_callV (rvf := fun x => some (.int x)) (st := []) (fr := 0) (lo := 0) (mc := 0) (ms := 0) C [7] wc_X7_hasPlaces wml_X7_36 wim_X7_hasPlaces wsl_7_X7_hasPlaces dX7_setElement_4 (As := [.inr (.inl a1.toInt64), .inl (1 : Int32)]) rfl hf (fun x h' hF => c_X7_hasPlaces _ _ _ _ _ _ (x, h') hF) rfl (Nat.le_of_ble_eq_true rfl) (room_ok hX (Nat.le_of_ble_eq_true rfl) (Nat.le_of_ble_eq_true rfl)) (cell_ok hX (Nat.le_of_ble_eq_true rfl) (Nat.le_of_ble_eq_true rfl)) (fun v2 h1 hf => ?_)
  refine s_jn hf (fun j21 e21 hf => ?_)
  have k21 : ∀ (h3 : AH), j21 h3 = some r → WW X h3 0 0 21 [none, none, none, none] [] := by
    intro h3 hf
    rw [e21] at hf
    exact s_return C E dX7_setElement_21 hf (Nat.le_of_ble_eq_true rfl) (Nat.le_of_ble_eq_true rfl)
  refine s_if_eq (tgt := 21) C dX7_setElement_7 (by decide) hf (fun hf => ?_) (fun hf => ?_)
  · refine s_weak (lv' := [none, none, none, none]) trivial ?_
    exact k21 _ hf
  · refine s_aload_n C dX7_setElement_10 rfl ?_
    refine s_getR C fl_X7_9 dX7_setElement_11 hf (fun v4 hf => ?_)
    refine s_iload_n C dX7_setElement_14 rfl ?_
    refine s_aload_n C dX7_setElement_15 rfl ?_
    refine s_lload_n C dX7_setElement_16 rfl ?_
    refine s_callV (rvf := fun x => some (.long x)) (st := [.int a1, rB (xD X).1 v4]) (fr := 0) (lo := 0) (mc := 0) (ms := 0) C [7] wc_X7_narrowed wml_X7_44 wim_X7_narrowed wsl_7_X7_narrowed dX7_setElement_17 (As := [.inr (.inl a2)]) rfl hf (fun x h' hF => c_X7_narrowed _ _ _ _ _ (x, h') hF) rfl (Nat.le_of_ble_eq_true rfl) (room_ok hX (Nat.le_of_ble_eq_true rfl) (Nat.le_of_ble_eq_true rfl)) (cell_ok hX (Nat.le_of_ble_eq_true rfl) (Nat.le_of_ble_eq_true rfl)) (fun v6 h5 hf => ?_)
    refine s_lastore C dX7_setElement_20 hf (fun h7 hf => ?_)
    refine s_weak (lv' := [none, none, none, none]) trivial ?_
    exact k21 _ hf
/-- HillBoxes.put(IIJ)I -/
noncomputable def f_X11_put (o : Option Nat) (a1 : Int32) (a2 : Int32) (a3 : Int64) (h : AH) : Option (Int32 × AH) :=
  rO h [11] o <| cl (f_X11_shelfAt o a1 h) fun v2 h1 =>
  if v2 = none then
    some ((-1 : Int32), h1)
  else
    rO h1 [7] v2 <| cl (f_X7_refusalOf v2 a2 h1) fun v4 h3 =>
    if v4 = 0 then
      rO h3 [7] v2 <| cl (f_X7_setElement v2 a2 a3 h3) fun _ h5 =>
      some ((1 : Int32), h5)
    else
      some (v4, h3)
set_option maxRecDepth 100000 in
set_option maxHeartbeats 4000000 in
theorem c_X11_put (l : Launch) (D : DT) (o : Option Nat) (a1 : Int32) (a2 : Int32) (a3 : Int64) (h : AH) (r : Int32 × AH) (hf : f_X11_put o a1 a2 a3 h = some r) : CM l D yX11_put cX11_put 7 (some .int) 2 46 0 0 [.inr (.inr o), .inl a1, .inl a2, .inr (.inl a3)] h (some (.int r.1)) r.2 := by
  refine CM.of (by decide) (Nat.le_of_ble_eq_true rfl) (fun X hl C hD hX hnm E => ?_)
  subst hl
  subst hD
  have C : CX X RX11 cX11_put 7 := C
  show WW X h 0 0 0 [some (rB (xD X).1 o), some (.int a1), some (.int a2), some (.long a3), none, none, none] []
  unfold f_X11_put at hf
  refine s_aload_n C dX11_put_0 rfl ?_
  refine s_iload_n C dX11_put_1 rfl ?_
  refine s_callV (rvf := fun x => some (rB (xD X).1 x)) (st := []) (fr := 0) (lo := 0) (mc := 0) (ms := 0) C [11] wc_X11_shelfAt wml_X11_238 wim_X11_shelfAt wsl_11_X11_shelfAt dX11_put_2 (As := [.inl a1]) rfl hf (fun x h' hF => c_X11_shelfAt _ _ _ _ _ (x, h') hF) rfl (Nat.le_of_ble_eq_true rfl) (room_ok hX (Nat.le_of_ble_eq_true rfl) (Nat.le_of_ble_eq_true rfl)) (cell_ok hX (Nat.le_of_ble_eq_true rfl) (Nat.le_of_ble_eq_true rfl)) (fun v2 h1 hf => ?_)
  refine s_astore C dX11_put_5 (by decide) (nc_n rfl) (lv' := [some (rB (xD X).1 o), some (.int a1), some (.int a2), some (.long a3), none, some (rB (xD X).1 v2), none]) rfl ?_
  refine s_aload C dX11_put_7 rfl ?_
  refine s_ifnonnull (tgt := 14) C dX11_put_9 (by decide) hf (fun hf => ?_) (fun hf => ?_)
  · refine s_aload C dX11_put_14 rfl ?_
    refine s_iload_n C dX11_put_16 rfl ?_
    refine s_callV (rvf := fun x => some (.int x)) (st := []) (fr := 1) (lo := 23) (mc := 0) (ms := 0) C [7] wc_X7_refusalOf wml_X11_445 wim_X7_refusalOf wsl_7_X7_refusalOf dX11_put_17 (As := [.inl a2]) rfl hf (fun x h' hF => c_X7_refusalOf _ _ _ _ _ (x, h') hF) rfl (Nat.le_of_ble_eq_true rfl) (room_ok hX (Nat.le_of_ble_eq_true rfl) (Nat.le_of_ble_eq_true rfl)) (cell_ok hX (Nat.le_of_ble_eq_true rfl) (Nat.le_of_ble_eq_true rfl)) (fun v4 h3 hf => ?_)
    refine s_istore C dX11_put_20 (by decide) (nc_r rfl) (lv' := [some (rB (xD X).1 o), some (.int a1), some (.int a2), some (.long a3), none, some (rB (xD X).1 v2), some (.int v4)]) rfl ?_
    refine s_iload C dX11_put_22 rfl ?_
    refine s_if_eq (tgt := 30) C dX11_put_24 (by decide) hf (fun hf => ?_) (fun hf => ?_)
    · refine s_aload C dX11_put_30 rfl ?_
      refine s_iload_n C dX11_put_32 rfl ?_
      refine s_lload_n C dX11_put_33 rfl ?_
      refine s_callV (rvf := fun _ => none) (st := []) (fr := 1) (lo := 23) (mc := 0) (ms := 0) C [7] wc_X7_setElement wml_X11_448 wim_X7_setElement wsl_7_X7_setElement dX11_put_34 (As := [.inl a2, .inr (.inl a3)]) rfl hf (fun x h' hF => c_X7_setElement _ _ _ _ _ _ (x, h') hF) rfl (Nat.le_of_ble_eq_true rfl) (room_ok hX (Nat.le_of_ble_eq_true rfl) (Nat.le_of_ble_eq_true rfl)) (cell_ok hX (Nat.le_of_ble_eq_true rfl) (Nat.le_of_ble_eq_true rfl)) (fun _ h5 hf => ?_)
      refine s_iconst C dX11_put_37 (v := (1 : Int32)) (by decide) ?_
      exact s_ireturn C E dX11_put_38 hf (Nat.le_of_ble_eq_true rfl) (Nat.le_of_ble_eq_true rfl)
    · refine s_iload C dX11_put_27 rfl ?_
      exact s_ireturn C E dX11_put_29 hf (Nat.le_of_ble_eq_true rfl) (Nat.le_of_ble_eq_true rfl)
  · refine s_iconst C dX11_put_12 (v := (-1 : Int32)) (by decide) ?_
    exact s_ireturn C E dX11_put_13 hf (Nat.le_of_ble_eq_true rfl) (Nat.le_of_ble_eq_true rfl)
/-- HillBoxes$Rules.putsDown(LHillBoxes$Box;)Z -/
noncomputable def f_X6_putsDown (o : Option Nat) (a1 : Option Nat) (h : AH) : Option (Int32 × AH) :=
  fR h [6] o 3 fun v1 =>
  fI h [3] v1 0 fun v2 =>
  rO h [6] o <| cl (f_X6_askForBox o v2 none a1 (0 : Int32) h) fun _ h3 =>
  fR h3 [6] o 3 fun v4 =>
  fI h3 [3] v4 0 fun v5 =>
  rO h3 [6] o <| cl (f_X6_answer o (3 : Int32) v5 h3) fun v7 h6 =>
  jn (fun (x8 : Int32) =>
    rz x8 h6) fun j34 =>
  if v7 = 0 then
    j34 (0 : Int32)
  else
    j34 (1 : Int32)
set_option maxRecDepth 100000 in
set_option maxHeartbeats 4000000 in
theorem c_X6_putsDown (l : Launch) (D : DT) (o : Option Nat) (a1 : Option Nat) (h : AH) (r : Int32 × AH) (hf : f_X6_putsDown o a1 h = some r) : CM l D yX6_putsDown cX6_putsDown 2 (some .boolean) 5 121 0 0 [.inr (.inr o), .inr (.inr a1)] h (some (.int r.1)) r.2 := by
  refine CM.of (by decide) (Nat.le_of_ble_eq_true rfl) (fun X hl C hD hX hnm E => ?_)
  subst hl
  subst hD
  have C : CX X RX6 cX6_putsDown 2 := C
  show WW X h 0 0 0 [some (rB (xD X).1 o), some (rB (xD X).1 a1)] []
  unfold f_X6_putsDown at hf
  refine s_aload_n C dX6_putsDown_0 rfl ?_
  refine s_aload_n C dX6_putsDown_1 rfl ?_
  refine s_getR C fl_X6_41 dX6_putsDown_2 hf (fun v1 hf => ?_)
  refine s_getI C fl_X6_55 dX6_putsDown_5 hf (fun v2 hf => ?_)
  refine s_null C dX6_putsDown_8 ?_
  refine s_aload_n C dX6_putsDown_9 rfl ?_
  refine s_iconst C dX6_putsDown_10 (v := (0 : Int32)) (by decide) ?_
  refine s_callV (rvf := fun _ => none) (st := []) (fr := 0) (lo := 0) (mc := 0) (ms := 0) C [6] wc_X6_askForBox wml_X6_119 wim_X6_askForBox wsl_6_X6_askForBox dX6_putsDown_11 (As := [.inl v2, .inr (.inr none), .inr (.inr a1), .inl (0 : Int32)]) rfl hf (fun x h' hF => c_X6_askForBox _ _ _ _ _ _ _ _ (x, h') hF) rfl (Nat.le_of_ble_eq_true rfl) (room_ok hX (Nat.le_of_ble_eq_true rfl) (Nat.le_of_ble_eq_true rfl)) (cell_ok hX (Nat.le_of_ble_eq_true rfl) (Nat.le_of_ble_eq_true rfl)) (fun _ h3 hf => ?_)
  refine s_aload_n C dX6_putsDown_14 rfl ?_
  refine s_iconst C dX6_putsDown_15 (v := (3 : Int32)) (by decide) ?_
  refine s_aload_n C dX6_putsDown_16 rfl ?_
  refine s_getR C fl_X6_41 dX6_putsDown_17 hf (fun v4 hf => ?_)
  refine s_getI C fl_X6_55 dX6_putsDown_20 hf (fun v5 hf => ?_)
  refine s_callV (rvf := fun x => some (.int x)) (st := []) (fr := 4) (lo := 97) (mc := 0) (ms := 0) C [6] wc_X6_answer wml_X6_116 wim_X6_answer wsl_6_X6_answer dX6_putsDown_23 (As := [.inl (3 : Int32), .inl v5]) rfl hf (fun x h' hF => c_X6_answer _ _ _ _ _ _ (x, h') hF) rfl (Nat.le_of_ble_eq_true rfl) (room_ok hX (Nat.le_of_ble_eq_true rfl) (Nat.le_of_ble_eq_true rfl)) (cell_ok hX (Nat.le_of_ble_eq_true rfl) (Nat.le_of_ble_eq_true rfl)) (fun v7 h6 hf => ?_)
  refine s_jn hf (fun j34 e34 hf => ?_)
  have k34 : ∀ (x8 : Int32), j34 x8 = some r → WW X h6 0 0 34 [none, none] [.int x8] := by
    intro x8 hf
    rw [e34] at hf
    exact s_zreturn C E dX6_putsDown_34 hf (Nat.le_of_ble_eq_true rfl) (Nat.le_of_ble_eq_true rfl)
  refine s_if_eq (tgt := 33) C dX6_putsDown_26 (by decide) hf (fun hf => ?_) (fun hf => ?_)
  · refine s_iconst C dX6_putsDown_33 (v := (0 : Int32)) (by decide) ?_
    refine s_weak (lv' := [none, none]) trivial ?_
    exact k34 _ hf
  · refine s_iconst C dX6_putsDown_29 (v := (1 : Int32)) (by decide) ?_
    refine s_goto (tgt := 34) C dX6_putsDown_30 (by decide) ?_
    refine s_weak (lv' := [none, none]) trivial ?_
    exact k34 _ hf
/-- HillBoxes.isToPut(LHillBoxes$Box;)Z -/
noncomputable def f_X11_isToPut (o : Option Nat) (a1 : Option Nat) (h : AH) : Option (Int32 × AH) :=
  jn (fun (x1 : Int32) (h2 : AH) =>
    rz x1 h2) fun j27 =>
  jn (fun (h3 : AH) =>
    j27 (0 : Int32) h3) fun j26 =>
  if a1 = none then
    j26 h
  else
    rO h [1] a1 <| cl (f_X1_isDown a1 h) fun v5 h4 =>
    if v5 = 0 then
      fR h4 [11] o 1 fun v6 =>
      rO h4 [6] v6 <| cl (f_X6_putsDown v6 a1 h4) fun v8 h7 =>
      if v8 = 0 then
        j26 h7
      else
        j27 (1 : Int32) h7
    else
      j26 h4
set_option maxRecDepth 100000 in
set_option maxHeartbeats 4000000 in
theorem c_X11_isToPut (l : Launch) (D : DT) (o : Option Nat) (a1 : Option Nat) (h : AH) (r : Int32 × AH) (hf : f_X11_isToPut o a1 h = some r) : CM l D yX11_isToPut cX11_isToPut 2 (some .boolean) 6 142 0 0 [.inr (.inr o), .inr (.inr a1)] h (some (.int r.1)) r.2 := by
  refine CM.of (by decide) (Nat.le_of_ble_eq_true rfl) (fun X hl C hD hX hnm E => ?_)
  subst hl
  subst hD
  have C : CX X RX11 cX11_isToPut 2 := C
  show WW X h 0 0 0 [some (rB (xD X).1 o), some (rB (xD X).1 a1)] []
  unfold f_X11_isToPut at hf
  refine s_aload_n C dX11_isToPut_0 rfl ?_
  refine s_jn hf (fun j27 e27 hf => ?_)
  have k27 : ∀ (x1 : Int32) (h2 : AH), j27 x1 h2 = some r → WW X h2 0 0 27 [none, none] [.int x1] := by
    intro x1 h2 hf
    rw [e27] at hf
    exact s_zreturn C E dX11_isToPut_27 hf (Nat.le_of_ble_eq_true rfl) (Nat.le_of_ble_eq_true rfl)
  refine s_jn hf (fun j26 e26 hf => ?_)
  have k26 : ∀ (h3 : AH), j26 h3 = some r → WW X h3 0 0 26 [none, none] [] := by
    intro h3 hf
    rw [e26] at hf
    refine s_iconst C dX11_isToPut_26 (v := (0 : Int32)) (by decide) ?_
    exact k27 _ _ hf
  refine s_ifnull (tgt := 26) C dX11_isToPut_1 (by decide) hf (fun hf => ?_) (fun hf => ?_)
  · refine s_weak (lv' := [none, none]) trivial ?_
    exact k26 _ hf
  · refine s_aload_n C dX11_isToPut_4 rfl ?_
    refine s_callV (rvf := fun x => some (.int x)) (st := []) (fr := 0) (lo := 0) (mc := 0) (ms := 0) C [1] wc_X1_isDown wml_X11_137 wim_X1_isDown wsl_1_X1_isDown dX11_isToPut_5 (As := []) rfl hf (fun x h' hF => c_X1_isDown _ _ _ _ (x, h') hF) rfl (Nat.le_of_ble_eq_true rfl) (room_ok hX (Nat.le_of_ble_eq_true rfl) (Nat.le_of_ble_eq_true rfl)) (cell_ok hX (Nat.le_of_ble_eq_true rfl) (Nat.le_of_ble_eq_true rfl)) (fun v5 h4 hf => ?_)
    refine s_if_ne (tgt := 26) C dX11_isToPut_8 (by decide) hf (fun hf => ?_) (fun hf => ?_)
    · refine s_weak (lv' := [none, none]) trivial ?_
      exact k26 _ hf
    · refine s_aload_n C dX11_isToPut_11 rfl ?_
      refine s_getR C fl_X11_21 dX11_isToPut_12 hf (fun v6 hf => ?_)
      refine s_aload_n C dX11_isToPut_15 rfl ?_
      refine s_callV (rvf := fun x => some (.int x)) (st := []) (fr := 5) (lo := 121) (mc := 0) (ms := 0) C [6] wc_X6_putsDown wml_X11_518 wim_X6_putsDown wsl_6_X6_putsDown dX11_isToPut_16 (As := [.inr (.inr a1)]) rfl hf (fun x h' hF => c_X6_putsDown _ _ _ _ _ (x, h') hF) rfl (Nat.le_of_ble_eq_true rfl) (room_ok hX (Nat.le_of_ble_eq_true rfl) (Nat.le_of_ble_eq_true rfl)) (cell_ok hX (Nat.le_of_ble_eq_true rfl) (Nat.le_of_ble_eq_true rfl)) (fun v8 h7 hf => ?_)
      refine s_if_eq (tgt := 26) C dX11_isToPut_19 (by decide) hf (fun hf => ?_) (fun hf => ?_)
      · refine s_weak (lv' := [none, none]) trivial ?_
        exact k26 _ hf
      · refine s_iconst C dX11_isToPut_22 (v := (1 : Int32)) (by decide) ?_
        refine s_goto (tgt := 27) C dX11_isToPut_23 (by decide) ?_
        refine s_weak (lv' := [none, none]) trivial ?_
        exact k27 _ _ hf
/-- HillBoxes.putAll()I -/
noncomputable def f_X11_putAll (o : Option Nat) (h : AH) : Option (Int32 × AH) :=
  lp (fun _ _ _ => none) (fun (L4 : Int32 → Int32 → AH → Option (Int32 × AH)) (x1 : Int32) (x2 : Int32) (h3 : AH) =>
    fR h3 [11] o 0 fun v4 =>
    fI h3 [3] v4 3 fun v5 =>
    if v5 ≤ x2 then
      some (x1, h3)
    else
      fR h3 [11] o 0 fun v6 =>
      rO h3 [3] v6 <| cl (f_X3_boxAt v6 x2 h3) fun v8 h7 =>
      jn (fun (x9 : Int32) (h10 : AH) =>
        L4 x9 (x2 + 1) h10) fun j50 =>
      if v8 = none then
        j50 x1 h7
      else
        rO h7 [11] o <| cl (f_X11_isToPut o v8 h7) fun v12 h11 =>
        if v12 = 0 then
          j50 x1 h11
        else
          fR h11 [11] o 0 fun v13 =>
          fI h11 [3] v13 0 fun v14 =>
          pI h11 [1] v8 11 v14 fun h15 =>
          j50 (x1 + 1) h15) lpN (0 : Int32) (0 : Int32) h
set_option maxRecDepth 100000 in
set_option maxHeartbeats 4000000 in
theorem c_X11_putAll (l : Launch) (D : DT) (o : Option Nat) (h : AH) (r : Int32 × AH) (hf : f_X11_putAll o h = some r) : CM l D yX11_putAll cX11_putAll 4 (some .int) 7 163 0 0 [.inr (.inr o)] h (some (.int r.1)) r.2 := by
  refine CM.of (by decide) (Nat.le_of_ble_eq_true rfl) (fun X hl C hD hX hnm E => ?_)
  subst hl
  subst hD
  have C : CX X RX11 cX11_putAll 4 := C
  show WW X h 0 0 0 [some (rB (xD X).1 o), none, none, none] []
  unfold f_X11_putAll at hf
  refine s_iconst C dX11_putAll_0 (v := (0 : Int32)) (by decide) ?_
  refine s_istore_n C dX11_putAll_1 (by decide) (nc_r rfl) (lv' := [some (rB (xD X).1 o), some (.int (0 : Int32)), none, none]) rfl ?_
  refine s_iconst C dX11_putAll_2 (v := (0 : Int32)) (by decide) ?_
  refine s_istore_n C dX11_putAll_3 (by decide) (nc_i rfl) (lv' := [some (rB (xD X).1 o), some (.int (0 : Int32)), some (.int (0 : Int32)), none]) rfl ?_
  refine s_lp3 hf (fun G4 z4 q4 hf => ?_)
  have k4 : ∀ (n : Nat) (x1 : Int32) (x2 : Int32) (h3 : AH), G4 n x1 x2 h3 = some r → WW X h3 0 0 4 [some (rB (xD X).1 o), some (.int x1), some (.int x2), none] [] := by
    intro n
    induction n with
    | zero =>
      intro x1 x2 h3 hf
      rw [z4] at hf
      cases hf
    | succ n ih4 =>
      intro x1 x2 h3 hf
      have hf := (q4 n x1 x2 h3).symm.trans hf
      refine s_iload_n C dX11_putAll_4 rfl ?_
      refine s_aload_n C dX11_putAll_5 rfl ?_
      refine s_getR C fl_X11_10 dX11_putAll_6 hf (fun v4 hf => ?_)
      refine s_getI C fl_X11_70 dX11_putAll_9 hf (fun v5 hf => ?_)
      refine s_icmp_ge (tgt := 56) C dX11_putAll_12 (by decide) hf (fun hf => ?_) (fun hf => ?_)
      · refine s_iload_n C dX11_putAll_56 rfl ?_
        exact s_ireturn C E dX11_putAll_57 hf (Nat.le_of_ble_eq_true rfl) (Nat.le_of_ble_eq_true rfl)
      · refine s_aload_n C dX11_putAll_15 rfl ?_
        refine s_getR C fl_X11_10 dX11_putAll_16 hf (fun v6 hf => ?_)
        refine s_iload_n C dX11_putAll_19 rfl ?_
        refine s_callV (rvf := fun x => some (rB (xD X).1 x)) (st := []) (fr := 0) (lo := 0) (mc := 0) (ms := 0) C [3] wc_X3_boxAt wml_X11_130 wim_X3_boxAt wsl_3_X3_boxAt dX11_putAll_20 (As := [.inl x2]) rfl hf (fun x h' hF => c_X3_boxAt _ _ _ _ _ (x, h') hF) rfl (Nat.le_of_ble_eq_true rfl) (room_ok hX (Nat.le_of_ble_eq_true rfl) (Nat.le_of_ble_eq_true rfl)) (cell_ok hX (Nat.le_of_ble_eq_true rfl) (Nat.le_of_ble_eq_true rfl)) (fun v8 h7 hf => ?_)
        refine s_astore_n C dX11_putAll_23 (by decide) (nc_i rfl) (lv' := [some (rB (xD X).1 o), some (.int x1), some (.int x2), some (rB (xD X).1 v8)]) rfl ?_
        refine s_aload_n C dX11_putAll_24 rfl ?_
        refine s_jn hf (fun j50 e50 hf => ?_)
        have k50 : ∀ (x9 : Int32) (h10 : AH), j50 x9 h10 = some r → WW X h10 0 0 50 [some (rB (xD X).1 o), some (.int x9), some (.int x2), none] [] := by
          intro x9 h10 hf
          rw [e50] at hf
          refine s_iinc C dX11_putAll_50 (v := (x2 + 1)) rfl rfl (by decide) (nc_i rfl) (lv' := [some (rB (xD X).1 o), some (.int x9), some (.int (x2 + 1)), none]) rfl ?_
          refine s_goto (tgt := 4) C dX11_putAll_53 (by decide) ?_
          exact ih4 _ _ _ hf
        refine s_ifnull (tgt := 50) C dX11_putAll_25 (by decide) hf (fun hf => ?_) (fun hf => ?_)
        · refine s_weak (lv' := [some (rB (xD X).1 o), some (.int x1), some (.int x2), none]) ⟨rfl, ⟨rfl, ⟨rfl, trivial⟩⟩⟩ ?_
          exact k50 _ _ hf
        · refine s_aload_n C dX11_putAll_28 rfl ?_
          refine s_aload_n C dX11_putAll_29 rfl ?_
          refine s_callV (rvf := fun x => some (.int x)) (st := []) (fr := 6) (lo := 142) (mc := 0) (ms := 0) C [11] wc_X11_isToPut wml_X11_372 wim_X11_isToPut wsl_11_X11_isToPut dX11_putAll_30 (As := [.inr (.inr v8)]) rfl hf (fun x h' hF => c_X11_isToPut _ _ _ _ _ (x, h') hF) rfl (Nat.le_of_ble_eq_true rfl) (room_ok hX (Nat.le_of_ble_eq_true rfl) (Nat.le_of_ble_eq_true rfl)) (cell_ok hX (Nat.le_of_ble_eq_true rfl) (Nat.le_of_ble_eq_true rfl)) (fun v12 h11 hf => ?_)
          refine s_if_eq (tgt := 50) C dX11_putAll_33 (by decide) hf (fun hf => ?_) (fun hf => ?_)
          · refine s_weak (lv' := [some (rB (xD X).1 o), some (.int x1), some (.int x2), none]) ⟨rfl, ⟨rfl, ⟨rfl, trivial⟩⟩⟩ ?_
            exact k50 _ _ hf
          · refine s_aload_n C dX11_putAll_36 rfl ?_
            refine s_aload_n C dX11_putAll_37 rfl ?_
            refine s_getR C fl_X11_10 dX11_putAll_38 hf (fun v13 hf => ?_)
            refine s_getI C fl_X11_52 dX11_putAll_41 hf (fun v14 hf => ?_)
            refine s_putI C fl_X11_153 (by decide) dX11_putAll_44 hf (fun h15 hf => ?_)
            refine s_iinc C dX11_putAll_47 (v := (x1 + 1)) rfl rfl (by decide) (nc_r rfl) (lv' := [some (rB (xD X).1 o), some (.int (x1 + 1)), some (.int x2), some (rB (xD X).1 v8)]) rfl ?_
            refine s_weak (lv' := [some (rB (xD X).1 o), some (.int (x1 + 1)), some (.int x2), none]) ⟨rfl, ⟨rfl, ⟨rfl, trivial⟩⟩⟩ ?_
            exact k50 _ _ hf
  exact k4 lpN _ _ _ hf
/-- HillBoxes$Logs.placeOf(I)I -/
noncomputable def f_X4_placeOf (o : Option Nat) (a1 : Int32) (h : AH) : Option (Int32 × AH) :=
  lp (fun _ _ => none) (fun (L4 : Int32 → Int32 → Option (Int32 × AH)) (x1 : Int32) (x2 : Int32) =>
    fR h [4] o 3 fun v3 =>
    aN h 20 v3 fun v4 =>
    if v4 ≤ x2 then
      some (x1, h)
    else
      fR h [4] o 3 fun v5 =>
      aI h 20 v5 x2 fun v6 =>
      fR h [4] o 3 fun v7 =>
      aI h 20 v7 a1 fun v8 =>
      jn (fun (x9 : Int32) =>
        L4 (x1 + x9) (x2 + 1)) fun j34 =>
      if v6 ≤ v8 then
        j34 (0 : Int32)
      else
        j34 (1 : Int32)) lpN (1 : Int32) (0 : Int32)
set_option maxRecDepth 100000 in
set_option maxHeartbeats 4000000 in
theorem c_X4_placeOf (l : Launch) (D : DT) (o : Option Nat) (a1 : Int32) (h : AH) (r : Int32 × AH) (hf : f_X4_placeOf o a1 h = some r) : CM l D yX4_placeOf cX4_placeOf 4 (some .int) 0 0 0 0 [.inr (.inr o), .inl a1] h (some (.int r.1)) r.2 := by
  refine CM.of (by decide) (Nat.le_of_ble_eq_true rfl) (fun X hl C hD hX hnm E => ?_)
  subst hl
  subst hD
  have C : CX X RX4 cX4_placeOf 4 := C
  show WW X h 0 0 0 [some (rB (xD X).1 o), some (.int a1), none, none] []
  unfold f_X4_placeOf at hf
  refine s_iconst C dX4_placeOf_0 (v := (1 : Int32)) (by decide) ?_
  refine s_istore_n C dX4_placeOf_1 (by decide) (nc_i rfl) (lv' := [some (rB (xD X).1 o), some (.int a1), some (.int (1 : Int32)), none]) rfl ?_
  refine s_iconst C dX4_placeOf_2 (v := (0 : Int32)) (by decide) ?_
  refine s_istore_n C dX4_placeOf_3 (by decide) (nc_i rfl) (lv' := [some (rB (xD X).1 o), some (.int a1), some (.int (1 : Int32)), some (.int (0 : Int32))]) rfl ?_
  refine s_lp2 hf (fun G4 z4 q4 hf => ?_)
  have k4 : ∀ (n : Nat) (x1 : Int32) (x2 : Int32), G4 n x1 x2 = some r → WW X h 0 0 4 [some (rB (xD X).1 o), some (.int a1), some (.int x1), some (.int x2)] [] := by
    intro n
    induction n with
    | zero =>
      intro x1 x2 hf
      rw [z4] at hf
      cases hf
    | succ n ih4 =>
      intro x1 x2 hf
      have hf := (q4 n x1 x2).symm.trans hf
      refine s_iload_n C dX4_placeOf_4 rfl ?_
      refine s_aload_n C dX4_placeOf_5 rfl ?_
      refine s_getR C fl_X4_19 dX4_placeOf_6 hf (fun v3 hf => ?_)
      refine s_alen C dX4_placeOf_9 (t := 20) (by decide) hf (fun v4 hf => ?_)
      refine s_icmp_ge (tgt := 42) C dX4_placeOf_10 (by decide) hf (fun hf => ?_) (fun hf => ?_)
      · refine s_iload_n C dX4_placeOf_42 rfl ?_
        exact s_ireturn C E dX4_placeOf_43 hf (Nat.le_of_ble_eq_true rfl) (Nat.le_of_ble_eq_true rfl)
      · refine s_iload_n C dX4_placeOf_13 rfl ?_
        refine s_aload_n C dX4_placeOf_14 rfl ?_
        refine s_getR C fl_X4_19 dX4_placeOf_15 hf (fun v5 hf => ?_)
        refine s_iload_n C dX4_placeOf_18 rfl ?_
        refine s_iaload C dX4_placeOf_19 hf (fun v6 hf => ?_)
        refine s_aload_n C dX4_placeOf_20 rfl ?_
        refine s_getR C fl_X4_19 dX4_placeOf_21 hf (fun v7 hf => ?_)
        refine s_iload_n C dX4_placeOf_24 rfl ?_
        refine s_iaload C dX4_placeOf_25 hf (fun v8 hf => ?_)
        refine s_jn hf (fun j34 e34 hf => ?_)
        have k34 : ∀ (x9 : Int32), j34 x9 = some r → WW X h 0 0 34 [some (rB (xD X).1 o), some (.int a1), none, some (.int x2)] [.int x9, .int x1] := by
          intro x9 hf
          rw [e34] at hf
          refine s_iadd C dX4_placeOf_34 ?_
          refine s_istore_n C dX4_placeOf_35 (by decide) (nc_i rfl) (lv' := [some (rB (xD X).1 o), some (.int a1), some (.int (x1 + x9)), some (.int x2)]) rfl ?_
          refine s_iinc C dX4_placeOf_36 (v := (x2 + 1)) rfl rfl (by decide) (nc_i rfl) (lv' := [some (rB (xD X).1 o), some (.int a1), some (.int (x1 + x9)), some (.int (x2 + 1))]) rfl ?_
          refine s_goto (tgt := 4) C dX4_placeOf_39 (by decide) ?_
          exact ih4 _ _ hf
        refine s_icmp_le (tgt := 33) C dX4_placeOf_26 (by decide) hf (fun hf => ?_) (fun hf => ?_)
        · refine s_iconst C dX4_placeOf_33 (v := (0 : Int32)) (by decide) ?_
          refine s_weak (lv' := [some (rB (xD X).1 o), some (.int a1), none, some (.int x2)]) ⟨rfl, ⟨rfl, ⟨rfl, trivial⟩⟩⟩ ?_
          exact k34 _ hf
        · refine s_iconst C dX4_placeOf_29 (v := (1 : Int32)) (by decide) ?_
          refine s_goto (tgt := 34) C dX4_placeOf_30 (by decide) ?_
          refine s_weak (lv' := [some (rB (xD X).1 o), some (.int a1), none, some (.int x2)]) ⟨rfl, ⟨rfl, ⟨rfl, trivial⟩⟩⟩ ?_
          exact k34 _ hf
  exact k4 lpN _ _ hf
/-- HillBoxes$Logs.isTalliedAhead(I)Z -/
noncomputable def f_X4_isTalliedAhead (o : Option Nat) (a1 : Int32) (h : AH) : Option (Int32 × AH) :=
  lp (fun _ => none) (fun (L2 : Int32 → Option (Int32 × AH)) (x1 : Int32) =>
    if a1 ≤ x1 then
      rz (0 : Int32) h
    else
      fR h [4] o 6 fun v2 =>
      aI h 23 v2 x1 fun v3 =>
      jn (
        L2 (x1 + 1)) fun j48 =>
      if v3 = 0 then
        j48
      else
        fR h [4] o 0 fun v4 =>
        aI h 20 v4 x1 fun v5 =>
        fR h [4] o 0 fun v6 =>
        aI h 20 v6 a1 fun v7 =>
        if v5 = v7 then
          fR h [4] o 4 fun v8 =>
          aI h 20 v8 x1 fun v9 =>
          fR h [4] o 4 fun v10 =>
          aI h 20 v10 a1 fun v11 =>
          if v9 = v11 then
            rz (1 : Int32) h
          else
            j48
        else
          j48) lpN (0 : Int32)
set_option maxRecDepth 100000 in
set_option maxHeartbeats 4000000 in
theorem c_X4_isTalliedAhead (l : Launch) (D : DT) (o : Option Nat) (a1 : Int32) (h : AH) (r : Int32 × AH) (hf : f_X4_isTalliedAhead o a1 h = some r) : CM l D yX4_isTalliedAhead cX4_isTalliedAhead 3 (some .boolean) 0 0 0 0 [.inr (.inr o), .inl a1] h (some (.int r.1)) r.2 := by
  refine CM.of (by decide) (Nat.le_of_ble_eq_true rfl) (fun X hl C hD hX hnm E => ?_)
  subst hl
  subst hD
  have C : CX X RX4 cX4_isTalliedAhead 3 := C
  show WW X h 0 0 0 [some (rB (xD X).1 o), some (.int a1), none] []
  unfold f_X4_isTalliedAhead at hf
  refine s_iconst C dX4_isTalliedAhead_0 (v := (0 : Int32)) (by decide) ?_
  refine s_istore_n C dX4_isTalliedAhead_1 (by decide) (nc_i rfl) (lv' := [some (rB (xD X).1 o), some (.int a1), some (.int (0 : Int32))]) rfl ?_
  refine s_lp1 hf (fun G2 z2 q2 hf => ?_)
  have k2 : ∀ (n : Nat) (x1 : Int32), G2 n x1 = some r → WW X h 0 0 2 [some (rB (xD X).1 o), some (.int a1), some (.int x1)] [] := by
    intro n
    induction n with
    | zero =>
      intro x1 hf
      rw [z2] at hf
      cases hf
    | succ n ih2 =>
      intro x1 hf
      have hf := (q2 n x1).symm.trans hf
      refine s_iload_n C dX4_isTalliedAhead_2 rfl ?_
      refine s_iload_n C dX4_isTalliedAhead_3 rfl ?_
      refine s_icmp_ge (tgt := 54) C dX4_isTalliedAhead_4 (by decide) hf (fun hf => ?_) (fun hf => ?_)
      · refine s_iconst C dX4_isTalliedAhead_54 (v := (0 : Int32)) (by decide) ?_
        exact s_zreturn C E dX4_isTalliedAhead_55 hf (Nat.le_of_ble_eq_true rfl) (Nat.le_of_ble_eq_true rfl)
      · refine s_aload_n C dX4_isTalliedAhead_7 rfl ?_
        refine s_getR C fl_X4_28 dX4_isTalliedAhead_8 hf (fun v2 hf => ?_)
        refine s_iload_n C dX4_isTalliedAhead_11 rfl ?_
        refine s_zaload C dX4_isTalliedAhead_12 hf (fun v3 hf => ?_)
        refine s_jn hf (fun j48 e48 hf => ?_)
        have k48 : j48  = some r → WW X h 0 0 48 [some (rB (xD X).1 o), some (.int a1), some (.int x1)] [] := by
          intro  hf
          rw [e48] at hf
          refine s_iinc C dX4_isTalliedAhead_48 (v := (x1 + 1)) rfl rfl (by decide) (nc_i rfl) (lv' := [some (rB (xD X).1 o), some (.int a1), some (.int (x1 + 1))]) rfl ?_
          refine s_goto (tgt := 2) C dX4_isTalliedAhead_51 (by decide) ?_
          exact ih2 _ hf
        refine s_if_eq (tgt := 48) C dX4_isTalliedAhead_13 (by decide) hf (fun hf => ?_) (fun hf => ?_)
        · exact k48 hf
        · refine s_aload_n C dX4_isTalliedAhead_16 rfl ?_
          refine s_getR C fl_X4_9 dX4_isTalliedAhead_17 hf (fun v4 hf => ?_)
          refine s_iload_n C dX4_isTalliedAhead_20 rfl ?_
          refine s_iaload C dX4_isTalliedAhead_21 hf (fun v5 hf => ?_)
          refine s_aload_n C dX4_isTalliedAhead_22 rfl ?_
          refine s_getR C fl_X4_9 dX4_isTalliedAhead_23 hf (fun v6 hf => ?_)
          refine s_iload_n C dX4_isTalliedAhead_26 rfl ?_
          refine s_iaload C dX4_isTalliedAhead_27 hf (fun v7 hf => ?_)
          refine s_icmp_ne (tgt := 48) C dX4_isTalliedAhead_28 (by decide) hf (fun hf => ?_) (fun hf => ?_)
          · exact k48 hf
          · refine s_aload_n C dX4_isTalliedAhead_31 rfl ?_
            refine s_getR C fl_X4_22 dX4_isTalliedAhead_32 hf (fun v8 hf => ?_)
            refine s_iload_n C dX4_isTalliedAhead_35 rfl ?_
            refine s_iaload C dX4_isTalliedAhead_36 hf (fun v9 hf => ?_)
            refine s_aload_n C dX4_isTalliedAhead_37 rfl ?_
            refine s_getR C fl_X4_22 dX4_isTalliedAhead_38 hf (fun v10 hf => ?_)
            refine s_iload_n C dX4_isTalliedAhead_41 rfl ?_
            refine s_iaload C dX4_isTalliedAhead_42 hf (fun v11 hf => ?_)
            refine s_icmp_ne (tgt := 48) C dX4_isTalliedAhead_43 (by decide) hf (fun hf => ?_) (fun hf => ?_)
            · exact k48 hf
            · refine s_iconst C dX4_isTalliedAhead_46 (v := (1 : Int32)) (by decide) ?_
              exact s_zreturn C E dX4_isTalliedAhead_47 hf (Nat.le_of_ble_eq_true rfl) (Nat.le_of_ble_eq_true rfl)
  exact k2 lpN _ hf
