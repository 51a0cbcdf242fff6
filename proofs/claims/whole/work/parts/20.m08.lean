/-- HillBoxes$Tape.readLine()V -/
noncomputable def f_X8_readLine (o : Option Nat) (h : AH) : Option (Unit × AH) :=
  fI h [8] o 6 fun v1 =>
  jn (fun (x2 : Int32) =>
    jn (fun (h3 : AH) =>
      rO h3 [8] o <| cl (f_X8_readEither o (0 : Int32) h3) fun _ h4 =>
      rO h4 [8] o <| cl (f_X8_emit o (-35 : Int32) h4) fun _ h5 =>
      some ((), h5)) fun j56 =>
    if x2 = 0 then
      j56 h
    else
      rO h [8] o <| cl (f_X8_advance o h) fun _ h6 =>
      rO h6 [8] o <| cl (f_X8_readEither o (0 : Int32) h6) fun _ h7 =>
      rO h7 [8] o <| cl (f_X8_emit o x2 h7) fun _ h8 =>
      rO h8 [8] o <| cl (f_X8_expect o (58 : Int32) h8) fun _ h9 =>
      j56 h9) fun j31 =>
  if v1 = (314 : Int32) then
    j31 (-33 : Int32)
  else
    fI h [8] o 6 fun v10 =>
    if v10 = (315 : Int32) then
      j31 (-34 : Int32)
    else
      j31 (0 : Int32)
set_option maxRecDepth 100000 in
set_option maxHeartbeats 4000000 in
theorem c_X8_readLine (l : Launch) (D : DT) (o : Option Nat) (h : AH) (r : Unit × AH) (hf : f_X8_readLine o h = some r) : CM l D yX8_readLine cX8_readLine 2 none 103 6063 0 0 [.inr (.inr o)] h none r.2 := by
  refine CM.of (by decide) (Nat.le_of_ble_eq_true rfl) (fun X hl C hD hX hnm E => ?_)
  subst hl
  subst hD
  have C : CX X RX8 cX8_readLine 2 := C
  show WW X h 0 0 0 [some (rB (xD X).1 o), none] []
  unfold f_X8_readLine at hf
  refine s_aload_n C dX8_readLine_0 rfl ?_
  refine s_getI C fl_X8_47 dX8_readLine_1 hf (fun v1 hf => ?_)
  refine s_sipush C dX8_readLine_4 (v := (314 : Int32)) (by decide) ?_
  refine s_jn hf (fun j31 e31 hf => ?_)
  have k31 : ∀ (x2 : Int32), j31 x2 = some r → WW X h 0 0 31 [some (rB (xD X).1 o), none] [.int x2] := by
    intro x2 hf
    rw [e31] at hf
    refine s_istore_n C dX8_readLine_31 (by decide) (nc_r rfl) (lv' := [some (rB (xD X).1 o), some (.int x2)]) rfl ?_
    refine s_iload_n C dX8_readLine_32 rfl ?_
    refine s_jn hf (fun j56 e56 hf => ?_)
    have k56 : ∀ (h3 : AH), j56 h3 = some r → WW X h3 0 0 56 [some (rB (xD X).1 o), none] [] := by
      intro h3 hf
      rw [e56] at hf
      refine s_aload_n C dX8_readLine_56 rfl ?_
      refine s_iconst C dX8_readLine_57 (v := (0 : Int32)) (by decide) ?_
      refine s_callV (rvf := fun _ => none) (st := []) (fr := 102) (lo := 6041) (mc := 0) (ms := 0) C [8] wc_X8_readEither wml_X8_59 wim_X8_readEither wsl_8_X8_readEither dX8_readLine_58 (As := [.inl (0 : Int32)]) rfl hf (fun x h' hF => c_X8_readEither _ _ _ _ _ (x, h') hF) rfl (Nat.le_of_ble_eq_true rfl) (room_ok hX (Nat.le_of_ble_eq_true rfl) (Nat.le_of_ble_eq_true rfl)) (cell_ok hX (Nat.le_of_ble_eq_true rfl) (Nat.le_of_ble_eq_true rfl)) (fun _ h4 hf => ?_)
      refine s_aload_n C dX8_readLine_61 rfl ?_
      refine s_bipush C dX8_readLine_62 (v := (-35 : Int32)) (by decide) ?_
      refine s_callV (rvf := fun _ => none) (st := []) (fr := 0) (lo := 0) (mc := 0) (ms := 0) C [8] wc_X8_emit wml_X8_63 wim_X8_emit wsl_8_X8_emit dX8_readLine_64 (As := [.inl (-35 : Int32)]) rfl hf (fun x h' hF => c_X8_emit _ _ _ _ _ (x, h') hF) rfl (Nat.le_of_ble_eq_true rfl) (room_ok hX (Nat.le_of_ble_eq_true rfl) (Nat.le_of_ble_eq_true rfl)) (cell_ok hX (Nat.le_of_ble_eq_true rfl) (Nat.le_of_ble_eq_true rfl)) (fun _ h5 hf => ?_)
      exact s_return C E dX8_readLine_67 hf (Nat.le_of_ble_eq_true rfl) (Nat.le_of_ble_eq_true rfl)
    refine s_if_eq (tgt := 56) C dX8_readLine_33 (by decide) hf (fun hf => ?_) (fun hf => ?_)
    · refine s_weak (lv' := [some (rB (xD X).1 o), none]) ⟨rfl, trivial⟩ ?_
      exact k56 _ hf
    · refine s_aload_n C dX8_readLine_36 rfl ?_
      refine s_callV (rvf := fun _ => none) (st := []) (fr := 0) (lo := 0) (mc := 0) (ms := 0) C [8] wc_X8_advance wml_X8_53 wim_X8_advance wsl_8_X8_advance dX8_readLine_37 (As := []) rfl hf (fun x h' hF => c_X8_advance _ _ _ _ (x, h') hF) rfl (Nat.le_of_ble_eq_true rfl) (room_ok hX (Nat.le_of_ble_eq_true rfl) (Nat.le_of_ble_eq_true rfl)) (cell_ok hX (Nat.le_of_ble_eq_true rfl) (Nat.le_of_ble_eq_true rfl)) (fun _ h6 hf => ?_)
      refine s_aload_n C dX8_readLine_40 rfl ?_
      refine s_iconst C dX8_readLine_41 (v := (0 : Int32)) (by decide) ?_
      refine s_callV (rvf := fun _ => none) (st := []) (fr := 102) (lo := 6041) (mc := 0) (ms := 0) C [8] wc_X8_readEither wml_X8_59 wim_X8_readEither wsl_8_X8_readEither dX8_readLine_42 (As := [.inl (0 : Int32)]) rfl hf (fun x h' hF => c_X8_readEither _ _ _ _ _ (x, h') hF) rfl (Nat.le_of_ble_eq_true rfl) (room_ok hX (Nat.le_of_ble_eq_true rfl) (Nat.le_of_ble_eq_true rfl)) (cell_ok hX (Nat.le_of_ble_eq_true rfl) (Nat.le_of_ble_eq_true rfl)) (fun _ h7 hf => ?_)
      refine s_aload_n C dX8_readLine_45 rfl ?_
      refine s_iload_n C dX8_readLine_46 rfl ?_
      refine s_callV (rvf := fun _ => none) (st := []) (fr := 0) (lo := 0) (mc := 0) (ms := 0) C [8] wc_X8_emit wml_X8_63 wim_X8_emit wsl_8_X8_emit dX8_readLine_47 (As := [.inl x2]) rfl hf (fun x h' hF => c_X8_emit _ _ _ _ _ (x, h') hF) rfl (Nat.le_of_ble_eq_true rfl) (room_ok hX (Nat.le_of_ble_eq_true rfl) (Nat.le_of_ble_eq_true rfl)) (cell_ok hX (Nat.le_of_ble_eq_true rfl) (Nat.le_of_ble_eq_true rfl)) (fun _ h8 hf => ?_)
      refine s_aload_n C dX8_readLine_50 rfl ?_
      refine s_bipush C dX8_readLine_51 (v := (58 : Int32)) (by decide) ?_
      refine s_callV (rvf := fun _ => none) (st := []) (fr := 1) (lo := 20) (mc := 0) (ms := 0) C [8] wc_X8_expect wml_X8_66 wim_X8_expect wsl_8_X8_expect dX8_readLine_53 (As := [.inl (58 : Int32)]) rfl hf (fun x h' hF => c_X8_expect _ _ _ _ _ (x, h') hF) rfl (Nat.le_of_ble_eq_true rfl) (room_ok hX (Nat.le_of_ble_eq_true rfl) (Nat.le_of_ble_eq_true rfl)) (cell_ok hX (Nat.le_of_ble_eq_true rfl) (Nat.le_of_ble_eq_true rfl)) (fun _ h9 hf => ?_)
      refine s_weak (lv' := [some (rB (xD X).1 o), none]) ⟨rfl, trivial⟩ ?_
      exact k56 _ hf
  refine s_icmp_ne (tgt := 15) C dX8_readLine_7 (by decide) hf (fun hf => ?_) (fun hf => ?_)
  · refine s_aload_n C dX8_readLine_15 rfl ?_
    refine s_getI C fl_X8_47 dX8_readLine_16 hf (fun v10 hf => ?_)
    refine s_sipush C dX8_readLine_19 (v := (315 : Int32)) (by decide) ?_
    refine s_icmp_ne (tgt := 30) C dX8_readLine_22 (by decide) hf (fun hf => ?_) (fun hf => ?_)
    · refine s_iconst C dX8_readLine_30 (v := (0 : Int32)) (by decide) ?_
      exact k31 _ hf
    · refine s_bipush C dX8_readLine_25 (v := (-34 : Int32)) (by decide) ?_
      refine s_goto (tgt := 31) C dX8_readLine_27 (by decide) ?_
      exact k31 _ hf
  · refine s_bipush C dX8_readLine_10 (v := (-33 : Int32)) (by decide) ?_
    refine s_goto (tgt := 31) C dX8_readLine_12 (by decide) ?_
    exact k31 _ hf
/-- HillBoxes$Tape.byteAt(I)I -/
noncomputable def f_X8_byteAt (o : Option Nat) (a1 : Int32) (h : AH) : Option (Int32 × AH) :=
  jn (fun (x1 : Int32) =>
    some (x1, h)) fun j29 =>
  jn (
    j29 (-1 : Int32)) fun j19 =>
  if a1 < 0 then
    j19
  else
    fI h [8] o 0 fun v2 =>
    if v2 ≤ a1 then
      j19
    else
      if a1 < (160 : Int32) then
        fR h [8] o 1 fun v3 =>
        aI h 20 v3 a1 fun v4 =>
        j29 v4
      else
        j19
set_option maxRecDepth 100000 in
set_option maxHeartbeats 4000000 in
theorem c_X8_byteAt (l : Launch) (D : DT) (o : Option Nat) (a1 : Int32) (h : AH) (r : Int32 × AH) (hf : f_X8_byteAt o a1 h = some r) : CM l D yX8_byteAt cX8_byteAt 2 (some .int) 0 0 0 0 [.inr (.inr o), .inl a1] h (some (.int r.1)) r.2 := by
  refine CM.of (by decide) (Nat.le_of_ble_eq_true rfl) (fun X hl C hD hX hnm E => ?_)
  subst hl
  subst hD
  have C : CX X RX8 cX8_byteAt 2 := C
  show WW X h 0 0 0 [some (rB (xD X).1 o), some (.int a1)] []
  unfold f_X8_byteAt at hf
  refine s_iload_n C dX8_byteAt_0 rfl ?_
  refine s_jn hf (fun j29 e29 hf => ?_)
  have k29 : ∀ (x1 : Int32), j29 x1 = some r → WW X h 0 0 29 [none, none] [.int x1] := by
    intro x1 hf
    rw [e29] at hf
    exact s_ireturn C E dX8_byteAt_29 hf (Nat.le_of_ble_eq_true rfl) (Nat.le_of_ble_eq_true rfl)
  refine s_jn hf (fun j19 e19 hf => ?_)
  have k19 : j19  = some r → WW X h 0 0 19 [none, none] [] := by
    intro  hf
    rw [e19] at hf
    refine s_iconst C dX8_byteAt_19 (v := (-1 : Int32)) (by decide) ?_
    refine s_goto (tgt := 29) C dX8_byteAt_20 (by decide) ?_
    exact k29 _ hf
  refine s_if_lt (tgt := 19) C dX8_byteAt_1 (by decide) hf (fun hf => ?_) (fun hf => ?_)
  · refine s_weak (lv' := [none, none]) trivial ?_
    exact k19 hf
  · refine s_iload_n C dX8_byteAt_4 rfl ?_
    refine s_aload_n C dX8_byteAt_5 rfl ?_
    refine s_getI C fl_X8_25 dX8_byteAt_6 hf (fun v2 hf => ?_)
    refine s_icmp_ge (tgt := 19) C dX8_byteAt_9 (by decide) hf (fun hf => ?_) (fun hf => ?_)
    · refine s_weak (lv' := [none, none]) trivial ?_
      exact k19 hf
    · refine s_iload_n C dX8_byteAt_12 rfl ?_
      refine s_sipush C dX8_byteAt_13 (v := (160 : Int32)) (by decide) ?_
      refine s_icmp_lt (tgt := 23) C dX8_byteAt_16 (by decide) hf (fun hf => ?_) (fun hf => ?_)
      · refine s_aload_n C dX8_byteAt_23 rfl ?_
        refine s_getR C fl_X8_9 dX8_byteAt_24 hf (fun v3 hf => ?_)
        refine s_iload_n C dX8_byteAt_27 rfl ?_
        refine s_iaload C dX8_byteAt_28 hf (fun v4 hf => ?_)
        refine s_weak (lv' := [none, none]) trivial ?_
        exact k29 _ hf
      · refine s_weak (lv' := [none, none]) trivial ?_
        exact k19 hf
/-- HillBoxes$Tape.isDigit(I)Z -/
noncomputable def f_X8_isDigit (a0 : Int32) (h : AH) : Option (Int32 × AH) :=
  jn (fun (x1 : Int32) =>
    rz x1 h) fun j17 =>
  jn (
    j17 (0 : Int32)) fun j16 =>
  if a0 < (48 : Int32) then
    j16
  else
    if (57 : Int32) < a0 then
      j16
    else
      j17 (1 : Int32)
set_option maxRecDepth 100000 in
set_option maxHeartbeats 4000000 in
theorem c_X8_isDigit (l : Launch) (D : DT) (a0 : Int32) (h : AH) (r : Int32 × AH) (hf : f_X8_isDigit a0 h = some r) : CM l D yX8_isDigit cX8_isDigit 1 (some .boolean) 0 0 0 0 [.inl a0] h (some (.int r.1)) r.2 := by
  refine CM.of (by decide) (Nat.le_of_ble_eq_true rfl) (fun X hl C hD hX hnm E => ?_)
  subst hl
  subst hD
  have C : CX X RX8 cX8_isDigit 1 := C
  show WW X h 0 0 0 [some (.int a0)] []
  unfold f_X8_isDigit at hf
  refine s_iload_n C dX8_isDigit_0 rfl ?_
  refine s_bipush C dX8_isDigit_1 (v := (48 : Int32)) (by decide) ?_
  refine s_jn hf (fun j17 e17 hf => ?_)
  have k17 : ∀ (x1 : Int32), j17 x1 = some r → WW X h 0 0 17 [none] [.int x1] := by
    intro x1 hf
    rw [e17] at hf
    exact s_zreturn C E dX8_isDigit_17 hf (Nat.le_of_ble_eq_true rfl) (Nat.le_of_ble_eq_true rfl)
  refine s_jn hf (fun j16 e16 hf => ?_)
  have k16 : j16  = some r → WW X h 0 0 16 [none] [] := by
    intro  hf
    rw [e16] at hf
    refine s_iconst C dX8_isDigit_16 (v := (0 : Int32)) (by decide) ?_
    exact k17 _ hf
  refine s_icmp_lt (tgt := 16) C dX8_isDigit_3 (by decide) hf (fun hf => ?_) (fun hf => ?_)
  · refine s_weak (lv' := [none]) trivial ?_
    exact k16 hf
  · refine s_iload_n C dX8_isDigit_6 rfl ?_
    refine s_bipush C dX8_isDigit_7 (v := (57 : Int32)) (by decide) ?_
    refine s_icmp_gt (tgt := 16) C dX8_isDigit_9 (by decide) hf (fun hf => ?_) (fun hf => ?_)
    · refine s_weak (lv' := [none]) trivial ?_
      exact k16 hf
    · refine s_iconst C dX8_isDigit_12 (v := (1 : Int32)) (by decide) ?_
      refine s_goto (tgt := 17) C dX8_isDigit_13 (by decide) ?_
      refine s_weak (lv' := [none]) trivial ?_
      exact k17 _ hf
/-- HillBoxes$Tape.isLetter(I)Z -/
noncomputable def f_X8_isLetter (a0 : Int32) (h : AH) : Option (Int32 × AH) :=
  jn (fun (x1 : Int32) =>
    rz x1 h) fun j17 =>
  jn (
    j17 (0 : Int32)) fun j16 =>
  if a0 < (97 : Int32) then
    j16
  else
    if (122 : Int32) < a0 then
      j16
    else
      j17 (1 : Int32)
set_option maxRecDepth 100000 in
set_option maxHeartbeats 4000000 in
theorem c_X8_isLetter (l : Launch) (D : DT) (a0 : Int32) (h : AH) (r : Int32 × AH) (hf : f_X8_isLetter a0 h = some r) : CM l D yX8_isLetter cX8_isLetter 1 (some .boolean) 0 0 0 0 [.inl a0] h (some (.int r.1)) r.2 := by
  refine CM.of (by decide) (Nat.le_of_ble_eq_true rfl) (fun X hl C hD hX hnm E => ?_)
  subst hl
  subst hD
  have C : CX X RX8 cX8_isLetter 1 := C
  show WW X h 0 0 0 [some (.int a0)] []
  unfold f_X8_isLetter at hf
  refine s_iload_n C dX8_isLetter_0 rfl ?_
  refine s_bipush C dX8_isLetter_1 (v := (97 : Int32)) (by decide) ?_
  refine s_jn hf (fun j17 e17 hf => ?_)
  have k17 : ∀ (x1 : Int32), j17 x1 = some r → WW X h 0 0 17 [none] [.int x1] := by
    intro x1 hf
    rw [e17] at hf
    exact s_zreturn C E dX8_isLetter_17 hf (Nat.le_of_ble_eq_true rfl) (Nat.le_of_ble_eq_true rfl)
  refine s_jn hf (fun j16 e16 hf => ?_)
  have k16 : j16  = some r → WW X h 0 0 16 [none] [] := by
    intro  hf
    rw [e16] at hf
    refine s_iconst C dX8_isLetter_16 (v := (0 : Int32)) (by decide) ?_
    exact k17 _ hf
  refine s_icmp_lt (tgt := 16) C dX8_isLetter_3 (by decide) hf (fun hf => ?_) (fun hf => ?_)
  · refine s_weak (lv' := [none]) trivial ?_
    exact k16 hf
  · refine s_iload_n C dX8_isLetter_6 rfl ?_
    refine s_bipush C dX8_isLetter_7 (v := (122 : Int32)) (by decide) ?_
    refine s_icmp_gt (tgt := 16) C dX8_isLetter_9 (by decide) hf (fun hf => ?_) (fun hf => ?_)
    · refine s_weak (lv' := [none]) trivial ?_
      exact k16 hf
    · refine s_iconst C dX8_isLetter_12 (v := (1 : Int32)) (by decide) ?_
      refine s_goto (tgt := 17) C dX8_isLetter_13 (by decide) ?_
      refine s_weak (lv' := [none]) trivial ?_
      exact k17 _ hf
/-- HillBoxes$Tape.readNumber(I)V -/
noncomputable def f_X8_readNumber (o : Option Nat) (a1 : Int32) (h : AH) : Option (Unit × AH) :=
  fR h [8] o 2 fun v1 =>
  bI h 20 v1 a1 (2 : Int32) fun h2 =>
  lp (fun _ _ _ => none) (fun (L11 : Int32 → Int32 → AH → Option (Unit × AH)) (x3 : Int32) (x4 : Int32) (h5 : AH) =>
    jn (fun (h6 : AH) =>
      fR h6 [8] o 4 fun v7 =>
      bI h6 20 v7 a1 x3 fun h8 =>
      some ((), h8)) fun j80 =>
    if (160 : Int32) ≤ x4 then
      j80 h5
    else
      fI h5 [8] o 5 fun v9 =>
      rO h5 [8] o <| cl (f_X8_byteAt o v9 h5) fun v11 h10 =>
      cl (f_X8_isDigit v11 h10) fun v13 h12 =>
      if v13 = 0 then
        j80 h12
      else
        jn (fun (x14 : Int32) (h15 : AH) =>
          fI h15 [8] o 5 fun v16 =>
          pI h15 [8] o 5 (v16 + (1 : Int32)) fun h17 =>
          L11 x14 (x4 + 1) h17) fun j64 =>
        if (5 : Int32) ≤ x4 then
          fR h12 [8] o 2 fun v18 =>
          bI h12 20 v18 a1 (1 : Int32) fun h19 =>
          j64 x3 h19
        else
          fI h12 [8] o 5 fun v20 =>
          rO h12 [8] o <| cl (f_X8_byteAt o v20 h12) fun v22 h21 =>
          j64 ((((10 : Int32) * x3) + v22) - (48 : Int32)) h21) lpN (0 : Int32) (0 : Int32) h2
set_option maxRecDepth 100000 in
set_option maxHeartbeats 4000000 in
theorem c_X8_readNumber (l : Launch) (D : DT) (o : Option Nat) (a1 : Int32) (h : AH) (r : Unit × AH) (hf : f_X8_readNumber o a1 h = some r) : CM l D yX8_readNumber cX8_readNumber 4 none 1 21 0 0 [.inr (.inr o), .inl a1] h none r.2 := by
  refine CM.of (by decide) (Nat.le_of_ble_eq_true rfl) (fun X hl C hD hX hnm E => ?_)
  subst hl
  subst hD
  have C : CX X RX8 cX8_readNumber 4 := C
  show WW X h 0 0 0 [some (rB (xD X).1 o), some (.int a1), none, none] []
  unfold f_X8_readNumber at hf
  refine s_iconst C dX8_readNumber_0 (v := (0 : Int32)) (by decide) ?_
  refine s_istore_n C dX8_readNumber_1 (by decide) (nc_i rfl) (lv' := [some (rB (xD X).1 o), some (.int a1), some (.int (0 : Int32)), none]) rfl ?_
  refine s_aload_n C dX8_readNumber_2 rfl ?_
  refine s_getR C fl_X8_13 dX8_readNumber_3 hf (fun v1 hf => ?_)
  refine s_iload_n C dX8_readNumber_6 rfl ?_
  refine s_iconst C dX8_readNumber_7 (v := (2 : Int32)) (by decide) ?_
  refine s_iastore C dX8_readNumber_8 hf (fun h2 hf => ?_)
  refine s_iconst C dX8_readNumber_9 (v := (0 : Int32)) (by decide) ?_
  refine s_istore_n C dX8_readNumber_10 (by decide) (nc_i rfl) (lv' := [some (rB (xD X).1 o), some (.int a1), some (.int (0 : Int32)), some (.int (0 : Int32))]) rfl ?_
  refine s_lp3 hf (fun G11 z11 q11 hf => ?_)
  have k11 : ∀ (n : Nat) (x3 : Int32) (x4 : Int32) (h5 : AH), G11 n x3 x4 h5 = some r → WW X h5 0 0 11 [some (rB (xD X).1 o), some (.int a1), some (.int x3), some (.int x4)] [] := by
    intro n
    induction n with
    | zero =>
      intro x3 x4 h5 hf
      rw [z11] at hf
      cases hf
    | succ n ih11 =>
      intro x3 x4 h5 hf
      have hf := (q11 n x3 x4 h5).symm.trans hf
      refine s_iload_n C dX8_readNumber_11 rfl ?_
      refine s_sipush C dX8_readNumber_12 (v := (160 : Int32)) (by decide) ?_
      refine s_jn hf (fun j80 e80 hf => ?_)
      have k80 : ∀ (h6 : AH), j80 h6 = some r → WW X h6 0 0 80 [some (rB (xD X).1 o), some (.int a1), some (.int x3), none] [] := by
        intro h6 hf
        rw [e80] at hf
        refine s_aload_n C dX8_readNumber_80 rfl ?_
        refine s_getR C fl_X8_19 dX8_readNumber_81 hf (fun v7 hf => ?_)
        refine s_iload_n C dX8_readNumber_84 rfl ?_
        refine s_iload_n C dX8_readNumber_85 rfl ?_
        refine s_iastore C dX8_readNumber_86 hf (fun h8 hf => ?_)
        exact s_return C E dX8_readNumber_87 hf (Nat.le_of_ble_eq_true rfl) (Nat.le_of_ble_eq_true rfl)
      refine s_icmp_ge (tgt := 80) C dX8_readNumber_15 (by decide) hf (fun hf => ?_) (fun hf => ?_)
      · refine s_weak (lv' := [some (rB (xD X).1 o), some (.int a1), some (.int x3), none]) ⟨rfl, ⟨rfl, ⟨rfl, trivial⟩⟩⟩ ?_
        exact k80 _ hf
      · refine s_aload_n C dX8_readNumber_18 rfl ?_
        refine s_aload_n C dX8_readNumber_19 rfl ?_
        refine s_getI C fl_X8_88 dX8_readNumber_20 hf (fun v9 hf => ?_)
        refine s_callV (rvf := fun x => some (.int x)) (st := []) (fr := 0) (lo := 0) (mc := 0) (ms := 0) C [8] wc_X8_byteAt wml_X8_94 wim_X8_byteAt wsl_8_X8_byteAt dX8_readNumber_23 (As := [.inl v9]) rfl hf (fun x h' hF => c_X8_byteAt _ _ _ _ _ (x, h') hF) rfl (Nat.le_of_ble_eq_true rfl) (room_ok hX (Nat.le_of_ble_eq_true rfl) (Nat.le_of_ble_eq_true rfl)) (cell_ok hX (Nat.le_of_ble_eq_true rfl) (Nat.le_of_ble_eq_true rfl)) (fun v11 h10 hf => ?_)
        refine s_callS (rvf := fun x => some (.int x)) (st := []) (fr := 0) (lo := 0) (mc := 0) (ms := 0) C wc_X8_isDigit wml_X8_104 wst_X8_isDigit dX8_readNumber_26 (As := [.inl v11]) rfl hf (fun x h' hF => c_X8_isDigit _ _ _ _ (x, h') hF) rfl (Nat.le_of_ble_eq_true rfl) (room_ok hX (Nat.le_of_ble_eq_true rfl) (Nat.le_of_ble_eq_true rfl)) (cell_ok hX (Nat.le_of_ble_eq_true rfl) (Nat.le_of_ble_eq_true rfl)) (fun v13 h12 hf => ?_)
        refine s_if_eq (tgt := 80) C dX8_readNumber_29 (by decide) hf (fun hf => ?_) (fun hf => ?_)
        · refine s_weak (lv' := [some (rB (xD X).1 o), some (.int a1), some (.int x3), none]) ⟨rfl, ⟨rfl, ⟨rfl, trivial⟩⟩⟩ ?_
          exact k80 _ hf
        · refine s_iload_n C dX8_readNumber_32 rfl ?_
          refine s_iconst C dX8_readNumber_33 (v := (5 : Int32)) (by decide) ?_
          refine s_jn hf (fun j64 e64 hf => ?_)
          have k64 : ∀ (x14 : Int32) (h15 : AH), j64 x14 h15 = some r → WW X h15 0 0 64 [some (rB (xD X).1 o), some (.int a1), some (.int x14), some (.int x4)] [] := by
            intro x14 h15 hf
            rw [e64] at hf
            refine s_aload_n C dX8_readNumber_64 rfl ?_
            refine s_dup C dX8_readNumber_65 c1_r ?_
            refine s_getI C fl_X8_88 dX8_readNumber_66 hf (fun v16 hf => ?_)
            refine s_iconst C dX8_readNumber_69 (v := (1 : Int32)) (by decide) ?_
            refine s_iadd C dX8_readNumber_70 ?_
            refine s_putI C fl_X8_88 (by decide) dX8_readNumber_71 hf (fun h17 hf => ?_)
            refine s_iinc C dX8_readNumber_74 (v := (x4 + 1)) rfl rfl (by decide) (nc_i rfl) (lv' := [some (rB (xD X).1 o), some (.int a1), some (.int x14), some (.int (x4 + 1))]) rfl ?_
            refine s_goto (tgt := 11) C dX8_readNumber_77 (by decide) ?_
            exact ih11 _ _ _ hf
          refine s_icmp_ge (tgt := 57) C dX8_readNumber_34 (by decide) hf (fun hf => ?_) (fun hf => ?_)
          · refine s_aload_n C dX8_readNumber_57 rfl ?_
            refine s_getR C fl_X8_13 dX8_readNumber_58 hf (fun v18 hf => ?_)
            refine s_iload_n C dX8_readNumber_61 rfl ?_
            refine s_iconst C dX8_readNumber_62 (v := (1 : Int32)) (by decide) ?_
            refine s_iastore C dX8_readNumber_63 hf (fun h19 hf => ?_)
            exact k64 _ _ hf
          · refine s_bipush C dX8_readNumber_37 (v := (10 : Int32)) (by decide) ?_
            refine s_iload_n C dX8_readNumber_39 rfl ?_
            refine s_imul C dX8_readNumber_40 ?_
            refine s_aload_n C dX8_readNumber_41 rfl ?_
            refine s_aload_n C dX8_readNumber_42 rfl ?_
            refine s_getI C fl_X8_88 dX8_readNumber_43 hf (fun v20 hf => ?_)
            refine s_callV (rvf := fun x => some (.int x)) (st := [.int ((10 : Int32) * x3)]) (fr := 0) (lo := 0) (mc := 0) (ms := 0) C [8] wc_X8_byteAt wml_X8_94 wim_X8_byteAt wsl_8_X8_byteAt dX8_readNumber_46 (As := [.inl v20]) rfl hf (fun x h' hF => c_X8_byteAt _ _ _ _ _ (x, h') hF) rfl (Nat.le_of_ble_eq_true rfl) (room_ok hX (Nat.le_of_ble_eq_true rfl) (Nat.le_of_ble_eq_true rfl)) (cell_ok hX (Nat.le_of_ble_eq_true rfl) (Nat.le_of_ble_eq_true rfl)) (fun v22 h21 hf => ?_)
            refine s_iadd C dX8_readNumber_49 ?_
            refine s_bipush C dX8_readNumber_50 (v := (48 : Int32)) (by decide) ?_
            refine s_isub C dX8_readNumber_52 ?_
            refine s_istore_n C dX8_readNumber_53 (by decide) (nc_i rfl) (lv' := [some (rB (xD X).1 o), some (.int a1), some (.int ((((10 : Int32) * x3) + v22) - (48 : Int32))), some (.int x4)]) rfl ?_
            refine s_goto (tgt := 64) C dX8_readNumber_54 (by decide) ?_
            exact k64 _ _ hf
  exact k11 lpN _ _ _ hf
/-- HillBoxes$Tape.isWord(III)Z -/
noncomputable def f_X8_isWord (o : Option Nat) (a1 : Int32) (a2 : Int32) (a3 : Int32) (h : AH) : Option (Int32 × AH) :=
  lp (fun _ _ => none) (fun (L3 : Int32 → AH → Option (Int32 × AH)) (x1 : Int32) (h2 : AH) =>
    jn (
      rz (1 : Int32) h2) fun j49 =>
    if a3 ≤ x1 then
      j49
    else
      if (78 : Int32) ≤ (a1 + x1) then
        j49
      else
        tbI txW (a1 + x1) fun v3 =>
        rO h2 [8] o <| cl (f_X8_byteAt o (a2 + x1) h2) fun v5 h4 =>
        if v3 = v5 then
          L3 (x1 + 1) h4
        else
          rz (0 : Int32) h4) lpN (0 : Int32) h
set_option maxRecDepth 100000 in
set_option maxHeartbeats 4000000 in
theorem c_X8_isWord (l : Launch) (D : DT) (o : Option Nat) (a1 : Int32) (a2 : Int32) (a3 : Int32) (h : AH) (r : Int32 × AH) (hf : f_X8_isWord o a1 a2 a3 h = some r) : CM l D yX8_isWord cX8_isWord 5 (some .boolean) 8 200 0 0 [.inr (.inr o), .inl a1, .inl a2, .inl a3] h (some (.int r.1)) r.2 := by
  refine CM.of (by decide) (Nat.le_of_ble_eq_true rfl) (fun X hl C hD hX hnm E => ?_)
  subst hl
  subst hD
  have C : CX X RX8 cX8_isWord 5 := C
  show WW X h 0 0 0 [some (rB (xD X).1 o), some (.int a1), some (.int a2), some (.int a3), none] []
  unfold f_X8_isWord at hf
  refine s_iconst C dX8_isWord_0 (v := (0 : Int32)) (by decide) ?_
  refine s_istore C dX8_isWord_1 (by decide) (nc_i rfl) (lv' := [some (rB (xD X).1 o), some (.int a1), some (.int a2), some (.int a3), some (.int (0 : Int32))]) rfl ?_
  refine s_lp2 hf (fun G3 z3 q3 hf => ?_)
  have k3 : ∀ (n : Nat) (x1 : Int32) (h2 : AH), G3 n x1 h2 = some r → WW X h2 0 0 3 [some (rB (xD X).1 o), some (.int a1), some (.int a2), some (.int a3), some (.int x1)] [] := by
    intro n
    induction n with
    | zero =>
      intro x1 h2 hf
      rw [z3] at hf
      cases hf
    | succ n ih3 =>
      intro x1 h2 hf
      have hf := (q3 n x1 h2).symm.trans hf
      refine s_iload C dX8_isWord_3 rfl ?_
      refine s_iload_n C dX8_isWord_5 rfl ?_
      refine s_jn hf (fun j49 e49 hf => ?_)
      have k49 : j49  = some r → WW X h2 0 0 49 [none, none, none, none, none] [] := by
        intro  hf
        rw [e49] at hf
        refine s_iconst C dX8_isWord_49 (v := (1 : Int32)) (by decide) ?_
        exact s_zreturn C E dX8_isWord_50 hf (Nat.le_of_ble_eq_true rfl) (Nat.le_of_ble_eq_true rfl)
      refine s_icmp_ge (tgt := 49) C dX8_isWord_6 (by decide) hf (fun hf => ?_) (fun hf => ?_)
      · refine s_weak (lv' := [none, none, none, none, none]) trivial ?_
        exact k49 hf
      · refine s_iload_n C dX8_isWord_9 rfl ?_
        refine s_iload C dX8_isWord_10 rfl ?_
        refine s_iadd C dX8_isWord_12 ?_
        refine s_ldcT121 C dX8_isWord_13 (fun qs13 qs13h => ?_)
        refine s_strlen C qs13h wml_X8_123 dX8_isWord_15 (Nat.le_of_ble_eq_true rfl) (room_n hX (Nat.le_of_ble_eq_true rfl) (Nat.le_of_ble_eq_true rfl)) (cell_ok hX (Nat.le_of_ble_eq_true rfl) (Nat.le_of_ble_eq_true rfl)) ?_
        refine s_icmp_ge (tgt := 49) C dX8_isWord_18 (by decide) hf (fun hf => ?_) (fun hf => ?_)
        · refine s_weak (lv' := [none, none, none, none, none]) trivial ?_
          exact k49 hf
        · refine s_ldcT121 C dX8_isWord_21 (fun qs21 qs21h => ?_)
          refine s_iload_n C dX8_isWord_23 rfl ?_
          refine s_iload C dX8_isWord_24 rfl ?_
          refine s_iadd C dX8_isWord_26 ?_
          refine s_strchar C qs21h wml_X8_126 dX8_isWord_27 hf (Nat.le_of_ble_eq_true rfl) (room_n hX (Nat.le_of_ble_eq_true rfl) (Nat.le_of_ble_eq_true rfl)) (cell_ok hX (Nat.le_of_ble_eq_true rfl) (Nat.le_of_ble_eq_true rfl)) (fun v3 hf => ?_)
          refine s_aload_n C dX8_isWord_30 rfl ?_
          refine s_iload_n C dX8_isWord_31 rfl ?_
          refine s_iload C dX8_isWord_32 rfl ?_
          refine s_iadd C dX8_isWord_34 ?_
          refine s_callV (rvf := fun x => some (.int x)) (st := [.int v3]) (fr := 0) (lo := 0) (mc := 0) (ms := 0) C [8] wc_X8_byteAt wml_X8_94 wim_X8_byteAt wsl_8_X8_byteAt dX8_isWord_35 (As := [.inl (a2 + x1)]) rfl hf (fun x h' hF => c_X8_byteAt _ _ _ _ _ (x, h') hF) rfl (Nat.le_of_ble_eq_true rfl) (room_ok hX (Nat.le_of_ble_eq_true rfl) (Nat.le_of_ble_eq_true rfl)) (cell_ok hX (Nat.le_of_ble_eq_true rfl) (Nat.le_of_ble_eq_true rfl)) (fun v5 h4 hf => ?_)
          refine s_icmp_eq (tgt := 43) C dX8_isWord_38 (by decide) hf (fun hf => ?_) (fun hf => ?_)
          · refine s_iinc C dX8_isWord_43 (v := (x1 + 1)) rfl rfl (by decide) (nc_i rfl) (lv' := [some (rB (xD X).1 o), some (.int a1), some (.int a2), some (.int a3), some (.int (x1 + 1))]) rfl ?_
            refine s_goto (tgt := 3) C dX8_isWord_46 (by decide) ?_
            exact ih3 _ _ hf
          · refine s_iconst C dX8_isWord_41 (v := (0 : Int32)) (by decide) ?_
            exact s_zreturn C E dX8_isWord_42 hf (Nat.le_of_ble_eq_true rfl) (Nat.le_of_ble_eq_true rfl)
  exact k3 lpN _ _ hf
/-- HillBoxes$Tape.wordNumber(II)I -/
noncomputable def f_X8_wordNumber (o : Option Nat) (a1 : Int32) (a2 : Int32) (h : AH) : Option (Int32 × AH) :=
  lp (fun _ _ _ _ => none) (fun (L8 : Int32 → Int32 → Int32 → AH → Option (Int32 × AH)) (x1 : Int32) (x2 : Int32) (x3 : Int32) (h4 : AH) =>
    if (78 : Int32) ≤ x3 then
      some ((-1 : Int32), h4)
    else
      tbI txW x3 fun v5 =>
      jn (fun (x6 : Int32) (x7 : Int32) (h8 : AH) =>
        L8 x6 x7 (x3 + 1) h8) fun j61 =>
      if v5 = (32 : Int32) then
        jn (fun (h9 : AH) =>
          j61 (x1 + 1) (x3 + (1 : Int32)) h9) fun j52 =>
        if (x3 - x2) = a2 then
          rO h4 [8] o <| cl (f_X8_isWord o x2 a1 a2 h4) fun v11 h10 =>
          if v11 = 0 then
            j52 h10
          else
            some (x1, h10)
        else
          j52 h4
      else
        j61 x1 x2 h4) lpN (0 : Int32) (0 : Int32) (0 : Int32) h
set_option maxRecDepth 100000 in
set_option maxHeartbeats 4000000 in
theorem c_X8_wordNumber (l : Launch) (D : DT) (o : Option Nat) (a1 : Int32) (a2 : Int32) (h : AH) (r : Int32 × AH) (hf : f_X8_wordNumber o a1 a2 h = some r) : CM l D yX8_wordNumber cX8_wordNumber 6 (some .int) 9 224 0 0 [.inr (.inr o), .inl a1, .inl a2] h (some (.int r.1)) r.2 := by
  refine CM.of (by decide) (Nat.le_of_ble_eq_true rfl) (fun X hl C hD hX hnm E => ?_)
  subst hl
  subst hD
  have C : CX X RX8 cX8_wordNumber 6 := C
  show WW X h 0 0 0 [some (rB (xD X).1 o), some (.int a1), some (.int a2), none, none, none] []
  unfold f_X8_wordNumber at hf
  refine s_iconst C dX8_wordNumber_0 (v := (0 : Int32)) (by decide) ?_
  refine s_istore_n C dX8_wordNumber_1 (by decide) (nc_i rfl) (lv' := [some (rB (xD X).1 o), some (.int a1), some (.int a2), some (.int (0 : Int32)), none, none]) rfl ?_
  refine s_iconst C dX8_wordNumber_2 (v := (0 : Int32)) (by decide) ?_
  refine s_istore C dX8_wordNumber_3 (by decide) (nc_i rfl) (lv' := [some (rB (xD X).1 o), some (.int a1), some (.int a2), some (.int (0 : Int32)), some (.int (0 : Int32)), none]) rfl ?_
  refine s_iconst C dX8_wordNumber_5 (v := (0 : Int32)) (by decide) ?_
  refine s_istore C dX8_wordNumber_6 (by decide) (nc_i rfl) (lv' := [some (rB (xD X).1 o), some (.int a1), some (.int a2), some (.int (0 : Int32)), some (.int (0 : Int32)), some (.int (0 : Int32))]) rfl ?_
  refine s_lp4 hf (fun G8 z8 q8 hf => ?_)
  have k8 : ∀ (n : Nat) (x1 : Int32) (x2 : Int32) (x3 : Int32) (h4 : AH), G8 n x1 x2 x3 h4 = some r → WW X h4 0 0 8 [some (rB (xD X).1 o), some (.int a1), some (.int a2), some (.int x1), some (.int x2), some (.int x3)] [] := by
    intro n
    induction n with
    | zero =>
      intro x1 x2 x3 h4 hf
      rw [z8] at hf
      cases hf
    | succ n ih8 =>
      intro x1 x2 x3 h4 hf
      have hf := (q8 n x1 x2 x3 h4).symm.trans hf
      refine s_iload C dX8_wordNumber_8 rfl ?_
      refine s_ldcT121 C dX8_wordNumber_10 (fun qs10 qs10h => ?_)
      refine s_strlen C qs10h wml_X8_123 dX8_wordNumber_12 (Nat.le_of_ble_eq_true rfl) (room_n hX (Nat.le_of_ble_eq_true rfl) (Nat.le_of_ble_eq_true rfl)) (cell_ok hX (Nat.le_of_ble_eq_true rfl) (Nat.le_of_ble_eq_true rfl)) ?_
      refine s_icmp_ge (tgt := 67) C dX8_wordNumber_15 (by decide) hf (fun hf => ?_) (fun hf => ?_)
      · refine s_iconst C dX8_wordNumber_67 (v := (-1 : Int32)) (by decide) ?_
        exact s_ireturn C E dX8_wordNumber_68 hf (Nat.le_of_ble_eq_true rfl) (Nat.le_of_ble_eq_true rfl)
      · refine s_ldcT121 C dX8_wordNumber_18 (fun qs18 qs18h => ?_)
        refine s_iload C dX8_wordNumber_20 rfl ?_
        refine s_strchar C qs18h wml_X8_126 dX8_wordNumber_22 hf (Nat.le_of_ble_eq_true rfl) (room_n hX (Nat.le_of_ble_eq_true rfl) (Nat.le_of_ble_eq_true rfl)) (cell_ok hX (Nat.le_of_ble_eq_true rfl) (Nat.le_of_ble_eq_true rfl)) (fun v5 hf => ?_)
        refine s_bipush C dX8_wordNumber_25 (v := (32 : Int32)) (by decide) ?_
        refine s_jn hf (fun j61 e61 hf => ?_)
        have k61 : ∀ (x6 : Int32) (x7 : Int32) (h8 : AH), j61 x6 x7 h8 = some r → WW X h8 0 0 61 [some (rB (xD X).1 o), some (.int a1), some (.int a2), some (.int x6), some (.int x7), some (.int x3)] [] := by
          intro x6 x7 h8 hf
          rw [e61] at hf
          refine s_iinc C dX8_wordNumber_61 (v := (x3 + 1)) rfl rfl (by decide) (nc_i rfl) (lv' := [some (rB (xD X).1 o), some (.int a1), some (.int a2), some (.int x6), some (.int x7), some (.int (x3 + 1))]) rfl ?_
          refine s_goto (tgt := 8) C dX8_wordNumber_64 (by decide) ?_
          exact ih8 _ _ _ _ hf
        refine s_icmp_ne (tgt := 61) C dX8_wordNumber_27 (by decide) hf (fun hf => ?_) (fun hf => ?_)
        · exact k61 _ _ _ hf
        · refine s_iload C dX8_wordNumber_30 rfl ?_
          refine s_iload C dX8_wordNumber_32 rfl ?_
          refine s_isub C dX8_wordNumber_34 ?_
          refine s_iload_n C dX8_wordNumber_35 rfl ?_
          refine s_jn hf (fun j52 e52 hf => ?_)
          have k52 : ∀ (h9 : AH), j52 h9 = some r → WW X h9 0 0 52 [some (rB (xD X).1 o), some (.int a1), some (.int a2), some (.int x1), none, some (.int x3)] [] := by
            intro h9 hf
            rw [e52] at hf
            refine s_iinc C dX8_wordNumber_52 (v := (x1 + 1)) rfl rfl (by decide) (nc_i rfl) (lv' := [some (rB (xD X).1 o), some (.int a1), some (.int a2), some (.int (x1 + 1)), none, some (.int x3)]) rfl ?_
            refine s_iload C dX8_wordNumber_55 rfl ?_
            refine s_iconst C dX8_wordNumber_57 (v := (1 : Int32)) (by decide) ?_
            refine s_iadd C dX8_wordNumber_58 ?_
            refine s_istore C dX8_wordNumber_59 (by decide) (nc_i rfl) (lv' := [some (rB (xD X).1 o), some (.int a1), some (.int a2), some (.int (x1 + 1)), some (.int (x3 + (1 : Int32))), some (.int x3)]) rfl ?_
            exact k61 _ _ _ hf
          refine s_icmp_ne (tgt := 52) C dX8_wordNumber_36 (by decide) hf (fun hf => ?_) (fun hf => ?_)
          · refine s_weak (lv' := [some (rB (xD X).1 o), some (.int a1), some (.int a2), some (.int x1), none, some (.int x3)]) ⟨rfl, ⟨rfl, ⟨rfl, ⟨rfl, ⟨rfl, trivial⟩⟩⟩⟩⟩ ?_
            exact k52 _ hf
          · refine s_aload_n C dX8_wordNumber_39 rfl ?_
            refine s_iload C dX8_wordNumber_40 rfl ?_
            refine s_iload_n C dX8_wordNumber_42 rfl ?_
            refine s_iload_n C dX8_wordNumber_43 rfl ?_
            refine s_callV (rvf := fun x => some (.int x)) (st := []) (fr := 8) (lo := 200) (mc := 0) (ms := 0) C [8] wc_X8_isWord wml_X8_130 wim_X8_isWord wsl_8_X8_isWord dX8_wordNumber_44 (As := [.inl x2, .inl a1, .inl a2]) rfl hf (fun x h' hF => c_X8_isWord _ _ _ _ _ _ _ (x, h') hF) rfl (Nat.le_of_ble_eq_true rfl) (room_ok hX (Nat.le_of_ble_eq_true rfl) (Nat.le_of_ble_eq_true rfl)) (cell_ok hX (Nat.le_of_ble_eq_true rfl) (Nat.le_of_ble_eq_true rfl)) (fun v11 h10 hf => ?_)
            refine s_if_eq (tgt := 52) C dX8_wordNumber_47 (by decide) hf (fun hf => ?_) (fun hf => ?_)
            · refine s_weak (lv' := [some (rB (xD X).1 o), some (.int a1), some (.int a2), some (.int x1), none, some (.int x3)]) ⟨rfl, ⟨rfl, ⟨rfl, ⟨rfl, ⟨rfl, trivial⟩⟩⟩⟩⟩ ?_
              exact k52 _ hf
            · refine s_iload_n C dX8_wordNumber_50 rfl ?_
              exact s_ireturn C E dX8_wordNumber_51 hf (Nat.le_of_ble_eq_true rfl) (Nat.le_of_ble_eq_true rfl)
  exact k8 lpN _ _ _ _ hf
/-- HillBoxes$Tape.readWord(I)V -/
noncomputable def f_X8_readWord (o : Option Nat) (a1 : Int32) (h : AH) : Option (Unit × AH) :=
  lp (fun _ _ => none) (fun (L2 : Int32 → AH → Option (Unit × AH)) (x1 : Int32) (h2 : AH) =>
    jn (fun (h3 : AH) =>
      fR h3 [8] o 3 fun v4 =>
      aI h3 20 v4 a1 fun v5 =>
      fI h3 [8] o 5 fun v6 =>
      fR h3 [8] o 3 fun v7 =>
      aI h3 20 v7 a1 fun v8 =>
      rO h3 [8] o <| cl (f_X8_wordNumber o v5 (v6 - v8) h3) fun v10 h9 =>
      fR h9 [8] o 2 fun v11 =>
      jn (fun (x12 : Int32) =>
        bI h9 20 v11 a1 x12 fun h13 =>
        fR h13 [8] o 4 fun v14 =>
        bI h13 20 v14 a1 ((-1 : Int32) - v10) fun h15 =>
        some ((), h15)) fun j89 =>
      if 0 ≤ v10 then
        if (11 : Int32) ≤ v10 then
          j89 ((300 : Int32) + v10)
        else
          j89 (3 : Int32)
      else
        j89 (1 : Int32)) fun j39 =>
    if (160 : Int32) ≤ x1 then
      j39 h2
    else
      fI h2 [8] o 5 fun v16 =>
      rO h2 [8] o <| cl (f_X8_byteAt o v16 h2) fun v18 h17 =>
      cl (f_X8_isLetter v18 h17) fun v20 h19 =>
      if v20 = 0 then
        j39 h19
      else
        fI h19 [8] o 5 fun v21 =>
        pI h19 [8] o 5 (v21 + (1 : Int32)) fun h22 =>
        L2 (x1 + 1) h22) lpN (0 : Int32) h
set_option maxRecDepth 100000 in
set_option maxHeartbeats 4000000 in
theorem c_X8_readWord (l : Launch) (D : DT) (o : Option Nat) (a1 : Int32) (h : AH) (r : Unit × AH) (hf : f_X8_readWord o a1 h = some r) : CM l D yX8_readWord cX8_readWord 3 none 10 249 0 0 [.inr (.inr o), .inl a1] h none r.2 := by
  refine CM.of (by decide) (Nat.le_of_ble_eq_true rfl) (fun X hl C hD hX hnm E => ?_)
  subst hl
  subst hD
  have C : CX X RX8 cX8_readWord 3 := C
  show WW X h 0 0 0 [some (rB (xD X).1 o), some (.int a1), none] []
  unfold f_X8_readWord at hf
  refine s_iconst C dX8_readWord_0 (v := (0 : Int32)) (by decide) ?_
  refine s_istore_n C dX8_readWord_1 (by decide) (nc_i rfl) (lv' := [some (rB (xD X).1 o), some (.int a1), some (.int (0 : Int32))]) rfl ?_
  refine s_lp2 hf (fun G2 z2 q2 hf => ?_)
  have k2 : ∀ (n : Nat) (x1 : Int32) (h2 : AH), G2 n x1 h2 = some r → WW X h2 0 0 2 [some (rB (xD X).1 o), some (.int a1), some (.int x1)] [] := by
    intro n
    induction n with
    | zero =>
      intro x1 h2 hf
      rw [z2] at hf
      cases hf
    | succ n ih2 =>
      intro x1 h2 hf
      have hf := (q2 n x1 h2).symm.trans hf
      refine s_iload_n C dX8_readWord_2 rfl ?_
      refine s_sipush C dX8_readWord_3 (v := (160 : Int32)) (by decide) ?_
      refine s_jn hf (fun j39 e39 hf => ?_)
      have k39 : ∀ (h3 : AH), j39 h3 = some r → WW X h3 0 0 39 [some (rB (xD X).1 o), some (.int a1), none] [] := by
        intro h3 hf
        rw [e39] at hf
        refine s_aload_n C dX8_readWord_39 rfl ?_
        refine s_aload_n C dX8_readWord_40 rfl ?_
        refine s_getR C fl_X8_16 dX8_readWord_41 hf (fun v4 hf => ?_)
        refine s_iload_n C dX8_readWord_44 rfl ?_
        refine s_iaload C dX8_readWord_45 hf (fun v5 hf => ?_)
        refine s_aload_n C dX8_readWord_46 rfl ?_
        refine s_getI C fl_X8_88 dX8_readWord_47 hf (fun v6 hf => ?_)
        refine s_aload_n C dX8_readWord_50 rfl ?_
        refine s_getR C fl_X8_16 dX8_readWord_51 hf (fun v7 hf => ?_)
        refine s_iload_n C dX8_readWord_54 rfl ?_
        refine s_iaload C dX8_readWord_55 hf (fun v8 hf => ?_)
        refine s_isub C dX8_readWord_56 ?_
        refine s_callV (rvf := fun x => some (.int x)) (st := []) (fr := 9) (lo := 224) (mc := 0) (ms := 0) C [8] wc_X8_wordNumber wml_X8_117 wim_X8_wordNumber wsl_8_X8_wordNumber dX8_readWord_57 (As := [.inl v5, .inl (v6 - v8)]) rfl hf (fun x h' hF => c_X8_wordNumber _ _ _ _ _ _ (x, h') hF) rfl (Nat.le_of_ble_eq_true rfl) (room_ok hX (Nat.le_of_ble_eq_true rfl) (Nat.le_of_ble_eq_true rfl)) (cell_ok hX (Nat.le_of_ble_eq_true rfl) (Nat.le_of_ble_eq_true rfl)) (fun v10 h9 hf => ?_)
        refine s_istore_n C dX8_readWord_60 (by decide) (nc_i rfl) (lv' := [some (rB (xD X).1 o), some (.int a1), some (.int v10)]) rfl ?_
        refine s_aload_n C dX8_readWord_61 rfl ?_
        refine s_getR C fl_X8_13 dX8_readWord_62 hf (fun v11 hf => ?_)
        refine s_iload_n C dX8_readWord_65 rfl ?_
        refine s_iload_n C dX8_readWord_66 rfl ?_
        refine s_jn hf (fun j89 e89 hf => ?_)
        have k89 : ∀ (x12 : Int32), j89 x12 = some r → WW X h9 0 0 89 [some (rB (xD X).1 o), some (.int a1), some (.int v10)] [.int x12, .int a1, rB (xD X).1 v11] := by
          intro x12 hf
          rw [e89] at hf
          refine s_iastore C dX8_readWord_89 hf (fun h13 hf => ?_)
          refine s_aload_n C dX8_readWord_90 rfl ?_
          refine s_getR C fl_X8_19 dX8_readWord_91 hf (fun v14 hf => ?_)
          refine s_iload_n C dX8_readWord_94 rfl ?_
          refine s_iconst C dX8_readWord_95 (v := (-1 : Int32)) (by decide) ?_
          refine s_iload_n C dX8_readWord_96 rfl ?_
          refine s_isub C dX8_readWord_97 ?_
          refine s_iastore C dX8_readWord_98 hf (fun h15 hf => ?_)
          exact s_return C E dX8_readWord_99 hf (Nat.le_of_ble_eq_true rfl) (Nat.le_of_ble_eq_true rfl)
        refine s_if_ge (tgt := 74) C dX8_readWord_67 (by decide) hf (fun hf => ?_) (fun hf => ?_)
        · refine s_iload_n C dX8_readWord_74 rfl ?_
          refine s_bipush C dX8_readWord_75 (v := (11 : Int32)) (by decide) ?_
          refine s_icmp_ge (tgt := 84) C dX8_readWord_77 (by decide) hf (fun hf => ?_) (fun hf => ?_)
          · refine s_sipush C dX8_readWord_84 (v := (300 : Int32)) (by decide) ?_
            refine s_iload_n C dX8_readWord_87 rfl ?_
            refine s_iadd C dX8_readWord_88 ?_
            exact k89 _ hf
          · refine s_iconst C dX8_readWord_80 (v := (3 : Int32)) (by decide) ?_
            refine s_goto (tgt := 89) C dX8_readWord_81 (by decide) ?_
            exact k89 _ hf
        · refine s_iconst C dX8_readWord_70 (v := (1 : Int32)) (by decide) ?_
          refine s_goto (tgt := 89) C dX8_readWord_71 (by decide) ?_
          exact k89 _ hf
      refine s_icmp_ge (tgt := 39) C dX8_readWord_6 (by decide) hf (fun hf => ?_) (fun hf => ?_)
      · refine s_weak (lv' := [some (rB (xD X).1 o), some (.int a1), none]) ⟨rfl, ⟨rfl, trivial⟩⟩ ?_
        exact k39 _ hf
      · refine s_aload_n C dX8_readWord_9 rfl ?_
        refine s_aload_n C dX8_readWord_10 rfl ?_
        refine s_getI C fl_X8_88 dX8_readWord_11 hf (fun v16 hf => ?_)
        refine s_callV (rvf := fun x => some (.int x)) (st := []) (fr := 0) (lo := 0) (mc := 0) (ms := 0) C [8] wc_X8_byteAt wml_X8_94 wim_X8_byteAt wsl_8_X8_byteAt dX8_readWord_14 (As := [.inl v16]) rfl hf (fun x h' hF => c_X8_byteAt _ _ _ _ _ (x, h') hF) rfl (Nat.le_of_ble_eq_true rfl) (room_ok hX (Nat.le_of_ble_eq_true rfl) (Nat.le_of_ble_eq_true rfl)) (cell_ok hX (Nat.le_of_ble_eq_true rfl) (Nat.le_of_ble_eq_true rfl)) (fun v18 h17 hf => ?_)
        refine s_callS (rvf := fun x => some (.int x)) (st := []) (fr := 0) (lo := 0) (mc := 0) (ms := 0) C wc_X8_isLetter wml_X8_98 wst_X8_isLetter dX8_readWord_17 (As := [.inl v18]) rfl hf (fun x h' hF => c_X8_isLetter _ _ _ _ (x, h') hF) rfl (Nat.le_of_ble_eq_true rfl) (room_ok hX (Nat.le_of_ble_eq_true rfl) (Nat.le_of_ble_eq_true rfl)) (cell_ok hX (Nat.le_of_ble_eq_true rfl) (Nat.le_of_ble_eq_true rfl)) (fun v20 h19 hf => ?_)
        refine s_if_eq (tgt := 39) C dX8_readWord_20 (by decide) hf (fun hf => ?_) (fun hf => ?_)
        · refine s_weak (lv' := [some (rB (xD X).1 o), some (.int a1), none]) ⟨rfl, ⟨rfl, trivial⟩⟩ ?_
          exact k39 _ hf
        · refine s_aload_n C dX8_readWord_23 rfl ?_
          refine s_dup C dX8_readWord_24 c1_r ?_
          refine s_getI C fl_X8_88 dX8_readWord_25 hf (fun v21 hf => ?_)
          refine s_iconst C dX8_readWord_28 (v := (1 : Int32)) (by decide) ?_
          refine s_iadd C dX8_readWord_29 ?_
          refine s_putI C fl_X8_88 (by decide) dX8_readWord_30 hf (fun h22 hf => ?_)
          refine s_iinc C dX8_readWord_33 (v := (x1 + 1)) rfl rfl (by decide) (nc_i rfl) (lv' := [some (rB (xD X).1 o), some (.int a1), some (.int (x1 + 1))]) rfl ?_
          refine s_goto (tgt := 2) C dX8_readWord_36 (by decide) ?_
          exact ih2 _ _ hf
  exact k2 lpN _ _ hf
/-- HillBoxes$Tape.skipBlanks()V -/
noncomputable def f_X8_skipBlanks (o : Option Nat) (h : AH) : Option (Unit × AH) :=
  lp (fun _ _ => none) (fun (L2 : Int32 → AH → Option (Unit × AH)) (x1 : Int32) (h2 : AH) =>
    jn (fun (h3 : AH) =>
      some ((), h3)) fun j38 =>
    if (160 : Int32) ≤ x1 then
      j38 h2
    else
      fI h2 [8] o 5 fun v4 =>
      rO h2 [8] o <| cl (f_X8_byteAt o v4 h2) fun v6 h5 =>
      if v6 = (32 : Int32) then
        fI h5 [8] o 5 fun v7 =>
        pI h5 [8] o 5 (v7 + (1 : Int32)) fun h8 =>
        L2 (x1 + 1) h8
      else
        j38 h5) lpN (0 : Int32) h
set_option maxRecDepth 100000 in
set_option maxHeartbeats 4000000 in
theorem c_X8_skipBlanks (l : Launch) (D : DT) (o : Option Nat) (h : AH) (r : Unit × AH) (hf : f_X8_skipBlanks o h = some r) : CM l D yX8_skipBlanks cX8_skipBlanks 2 none 1 21 0 0 [.inr (.inr o)] h none r.2 := by
  refine CM.of (by decide) (Nat.le_of_ble_eq_true rfl) (fun X hl C hD hX hnm E => ?_)
  subst hl
  subst hD
  have C : CX X RX8 cX8_skipBlanks 2 := C
  show WW X h 0 0 0 [some (rB (xD X).1 o), none] []
  unfold f_X8_skipBlanks at hf
  refine s_iconst C dX8_skipBlanks_0 (v := (0 : Int32)) (by decide) ?_
  refine s_istore_n C dX8_skipBlanks_1 (by decide) (nc_r rfl) (lv' := [some (rB (xD X).1 o), some (.int (0 : Int32))]) rfl ?_
  refine s_lp2 hf (fun G2 z2 q2 hf => ?_)
  have k2 : ∀ (n : Nat) (x1 : Int32) (h2 : AH), G2 n x1 h2 = some r → WW X h2 0 0 2 [some (rB (xD X).1 o), some (.int x1)] [] := by
    intro n
    induction n with
    | zero =>
      intro x1 h2 hf
      rw [z2] at hf
      cases hf
    | succ n ih2 =>
      intro x1 h2 hf
      have hf := (q2 n x1 h2).symm.trans hf
      refine s_iload_n C dX8_skipBlanks_2 rfl ?_
      refine s_sipush C dX8_skipBlanks_3 (v := (160 : Int32)) (by decide) ?_
      refine s_jn hf (fun j38 e38 hf => ?_)
      have k38 : ∀ (h3 : AH), j38 h3 = some r → WW X h3 0 0 38 [none, none] [] := by
        intro h3 hf
        rw [e38] at hf
        exact s_return C E dX8_skipBlanks_38 hf (Nat.le_of_ble_eq_true rfl) (Nat.le_of_ble_eq_true rfl)
      refine s_icmp_ge (tgt := 38) C dX8_skipBlanks_6 (by decide) hf (fun hf => ?_) (fun hf => ?_)
      · refine s_weak (lv' := [none, none]) trivial ?_
        exact k38 _ hf
      · refine s_aload_n C dX8_skipBlanks_9 rfl ?_
        refine s_aload_n C dX8_skipBlanks_10 rfl ?_
        refine s_getI C fl_X8_88 dX8_skipBlanks_11 hf (fun v4 hf => ?_)
        refine s_callV (rvf := fun x => some (.int x)) (st := []) (fr := 0) (lo := 0) (mc := 0) (ms := 0) C [8] wc_X8_byteAt wml_X8_94 wim_X8_byteAt wsl_8_X8_byteAt dX8_skipBlanks_14 (As := [.inl v4]) rfl hf (fun x h' hF => c_X8_byteAt _ _ _ _ _ (x, h') hF) rfl (Nat.le_of_ble_eq_true rfl) (room_ok hX (Nat.le_of_ble_eq_true rfl) (Nat.le_of_ble_eq_true rfl)) (cell_ok hX (Nat.le_of_ble_eq_true rfl) (Nat.le_of_ble_eq_true rfl)) (fun v6 h5 hf => ?_)
        refine s_bipush C dX8_skipBlanks_17 (v := (32 : Int32)) (by decide) ?_
        refine s_icmp_ne (tgt := 38) C dX8_skipBlanks_19 (by decide) hf (fun hf => ?_) (fun hf => ?_)
        · refine s_weak (lv' := [none, none]) trivial ?_
          exact k38 _ hf
        · refine s_aload_n C dX8_skipBlanks_22 rfl ?_
          refine s_dup C dX8_skipBlanks_23 c1_r ?_
          refine s_getI C fl_X8_88 dX8_skipBlanks_24 hf (fun v7 hf => ?_)
          refine s_iconst C dX8_skipBlanks_27 (v := (1 : Int32)) (by decide) ?_
          refine s_iadd C dX8_skipBlanks_28 ?_
          refine s_putI C fl_X8_88 (by decide) dX8_skipBlanks_29 hf (fun h8 hf => ?_)
          refine s_iinc C dX8_skipBlanks_32 (v := (x1 + 1)) rfl rfl (by decide) (nc_r rfl) (lv' := [some (rB (xD X).1 o), some (.int (x1 + 1))]) rfl ?_
          refine s_goto (tgt := 2) C dX8_skipBlanks_35 (by decide) ?_
          exact ih2 _ _ hf
  exact k2 lpN _ _ hf
/-- HillBoxes$Tape.splitIntoTokens()V -/
noncomputable def f_X8_splitIntoTokens (o : Option Nat) (h : AH) : Option (Unit × AH) :=
  pI h [8] o 5 (0 : Int32) fun h1 =>
  lp (fun _ _ => none) (fun (L7 : Int32 → AH → Option (Unit × AH)) (x2 : Int32) (h3 : AH) =>
    if (160 : Int32) < x2 then
      some ((), h3)
    else
      rO h3 [8] o <| cl (f_X8_skipBlanks o h3) fun _ h4 =>
      fR h4 [8] o 3 fun v5 =>
      fI h4 [8] o 5 fun v6 =>
      bI h4 20 v5 x2 v6 fun h7 =>
      fI h7 [8] o 5 fun v8 =>
      rO h7 [8] o <| cl (f_X8_byteAt o v8 h7) fun v10 h9 =>
      if 0 ≤ v10 then
        cl (f_X8_isLetter v10 h9) fun v12 h11 =>
        jn (fun (h13 : AH) =>
          L7 (x2 + 1) h13) fun j110 =>
        if v12 = 0 then
          cl (f_X8_isDigit v10 h11) fun v15 h14 =>
          if v15 = 0 then
            fR h14 [8] o 2 fun v16 =>
            jn (fun (x17 : Int32) =>
              bI h14 20 v16 x2 x17 fun h18 =>
              fI h18 [8] o 5 fun v19 =>
              pI h18 [8] o 5 (v19 + (1 : Int32)) fun h20 =>
              j110 h20) fun j99 =>
            if (ixS ((v10.toUInt32 % 65536).toInt32)) < 0 then
              j99 (1 : Int32)
            else
              j99 v10
          else
            rO h14 [8] o <| cl (f_X8_readNumber o x2 h14) fun _ h21 =>
            j110 h21
        else
          rO h11 [8] o <| cl (f_X8_readWord o x2 h11) fun _ h22 =>
          j110 h22
      else
        fR h9 [8] o 2 fun v23 =>
        bI h9 20 v23 x2 (0 : Int32) fun h24 =>
        some ((), h24)) lpN (0 : Int32) h1
set_option maxRecDepth 100000 in
set_option maxHeartbeats 4000000 in
theorem c_X8_splitIntoTokens (l : Launch) (D : DT) (o : Option Nat) (h : AH) (r : Unit × AH) (hf : f_X8_splitIntoTokens o h = some r) : CM l D yX8_splitIntoTokens cX8_splitIntoTokens 3 none 11 271 0 0 [.inr (.inr o)] h none r.2 := by
  refine CM.of (by decide) (Nat.le_of_ble_eq_true rfl) (fun X hl C hD hX hnm E => ?_)
  subst hl
  subst hD
  have C : CX X RX8 cX8_splitIntoTokens 3 := C
  show WW X h 0 0 0 [some (rB (xD X).1 o), none, none] []
  unfold f_X8_splitIntoTokens at hf
  refine s_aload_n C dX8_splitIntoTokens_0 rfl ?_
  refine s_iconst C dX8_splitIntoTokens_1 (v := (0 : Int32)) (by decide) ?_
  refine s_putI C fl_X8_88 (by decide) dX8_splitIntoTokens_2 hf (fun h1 hf => ?_)
  refine s_iconst C dX8_splitIntoTokens_5 (v := (0 : Int32)) (by decide) ?_
  refine s_istore_n C dX8_splitIntoTokens_6 (by decide) (nc_r rfl) (lv' := [some (rB (xD X).1 o), some (.int (0 : Int32)), none]) rfl ?_
  refine s_lp2 hf (fun G7 z7 q7 hf => ?_)
  have k7 : ∀ (n : Nat) (x2 : Int32) (h3 : AH), G7 n x2 h3 = some r → WW X h3 0 0 7 [some (rB (xD X).1 o), some (.int x2), none] [] := by
    intro n
    induction n with
    | zero =>
      intro x2 h3 hf
      rw [z7] at hf
      cases hf
    | succ n ih7 =>
      intro x2 h3 hf
      have hf := (q7 n x2 h3).symm.trans hf
      refine s_iload_n C dX8_splitIntoTokens_7 rfl ?_
      refine s_sipush C dX8_splitIntoTokens_8 (v := (160 : Int32)) (by decide) ?_
      refine s_icmp_gt (tgt := 116) C dX8_splitIntoTokens_11 (by decide) hf (fun hf => ?_) (fun hf => ?_)
      · exact s_return C E dX8_splitIntoTokens_116 hf (Nat.le_of_ble_eq_true rfl) (Nat.le_of_ble_eq_true rfl)
      · refine s_aload_n C dX8_splitIntoTokens_14 rfl ?_
        refine s_callV (rvf := fun _ => none) (st := []) (fr := 1) (lo := 21) (mc := 0) (ms := 0) C [8] wc_X8_skipBlanks wml_X8_91 wim_X8_skipBlanks wsl_8_X8_skipBlanks dX8_splitIntoTokens_15 (As := []) rfl hf (fun x h' hF => c_X8_skipBlanks _ _ _ _ (x, h') hF) rfl (Nat.le_of_ble_eq_true rfl) (room_ok hX (Nat.le_of_ble_eq_true rfl) (Nat.le_of_ble_eq_true rfl)) (cell_ok hX (Nat.le_of_ble_eq_true rfl) (Nat.le_of_ble_eq_true rfl)) (fun _ h4 hf => ?_)
        refine s_aload_n C dX8_splitIntoTokens_18 rfl ?_
        refine s_getR C fl_X8_16 dX8_splitIntoTokens_19 hf (fun v5 hf => ?_)
        refine s_iload_n C dX8_splitIntoTokens_22 rfl ?_
        refine s_aload_n C dX8_splitIntoTokens_23 rfl ?_
        refine s_getI C fl_X8_88 dX8_splitIntoTokens_24 hf (fun v6 hf => ?_)
        refine s_iastore C dX8_splitIntoTokens_27 hf (fun h7 hf => ?_)
        refine s_aload_n C dX8_splitIntoTokens_28 rfl ?_
        refine s_aload_n C dX8_splitIntoTokens_29 rfl ?_
        refine s_getI C fl_X8_88 dX8_splitIntoTokens_30 hf (fun v8 hf => ?_)
        refine s_callV (rvf := fun x => some (.int x)) (st := []) (fr := 0) (lo := 0) (mc := 0) (ms := 0) C [8] wc_X8_byteAt wml_X8_94 wim_X8_byteAt wsl_8_X8_byteAt dX8_splitIntoTokens_33 (As := [.inl v8]) rfl hf (fun x h' hF => c_X8_byteAt _ _ _ _ _ (x, h') hF) rfl (Nat.le_of_ble_eq_true rfl) (room_ok hX (Nat.le_of_ble_eq_true rfl) (Nat.le_of_ble_eq_true rfl)) (cell_ok hX (Nat.le_of_ble_eq_true rfl) (Nat.le_of_ble_eq_true rfl)) (fun v10 h9 hf => ?_)
        refine s_istore_n C dX8_splitIntoTokens_36 (by decide) (nc_i rfl) (lv' := [some (rB (xD X).1 o), some (.int x2), some (.int v10)]) rfl ?_
        refine s_iload_n C dX8_splitIntoTokens_37 rfl ?_
        refine s_if_ge (tgt := 49) C dX8_splitIntoTokens_38 (by decide) hf (fun hf => ?_) (fun hf => ?_)
        · refine s_iload_n C dX8_splitIntoTokens_49 rfl ?_
          refine s_callS (rvf := fun x => some (.int x)) (st := []) (fr := 0) (lo := 0) (mc := 0) (ms := 0) C wc_X8_isLetter wml_X8_98 wst_X8_isLetter dX8_splitIntoTokens_50 (As := [.inl v10]) rfl hf (fun x h' hF => c_X8_isLetter _ _ _ _ (x, h') hF) rfl (Nat.le_of_ble_eq_true rfl) (room_ok hX (Nat.le_of_ble_eq_true rfl) (Nat.le_of_ble_eq_true rfl)) (cell_ok hX (Nat.le_of_ble_eq_true rfl) (Nat.le_of_ble_eq_true rfl)) (fun v12 h11 hf => ?_)
          refine s_jn hf (fun j110 e110 hf => ?_)
          have k110 : ∀ (h13 : AH), j110 h13 = some r → WW X h13 0 0 110 [some (rB (xD X).1 o), some (.int x2), none] [] := by
            intro h13 hf
            rw [e110] at hf
            refine s_iinc C dX8_splitIntoTokens_110 (v := (x2 + 1)) rfl rfl (by decide) (nc_r rfl) (lv' := [some (rB (xD X).1 o), some (.int (x2 + 1)), none]) rfl ?_
            refine s_goto (tgt := 7) C dX8_splitIntoTokens_113 (by decide) ?_
            exact ih7 _ _ hf
          refine s_if_eq (tgt := 64) C dX8_splitIntoTokens_53 (by decide) hf (fun hf => ?_) (fun hf => ?_)
          · refine s_iload_n C dX8_splitIntoTokens_64 rfl ?_
            refine s_callS (rvf := fun x => some (.int x)) (st := []) (fr := 0) (lo := 0) (mc := 0) (ms := 0) C wc_X8_isDigit wml_X8_104 wst_X8_isDigit dX8_splitIntoTokens_65 (As := [.inl v10]) rfl hf (fun x h' hF => c_X8_isDigit _ _ _ _ (x, h') hF) rfl (Nat.le_of_ble_eq_true rfl) (room_ok hX (Nat.le_of_ble_eq_true rfl) (Nat.le_of_ble_eq_true rfl)) (cell_ok hX (Nat.le_of_ble_eq_true rfl) (Nat.le_of_ble_eq_true rfl)) (fun v15 h14 hf => ?_)
            refine s_if_eq (tgt := 79) C dX8_splitIntoTokens_68 (by decide) hf (fun hf => ?_) (fun hf => ?_)
            · refine s_aload_n C dX8_splitIntoTokens_79 rfl ?_
              refine s_getR C fl_X8_13 dX8_splitIntoTokens_80 hf (fun v16 hf => ?_)
              refine s_iload_n C dX8_splitIntoTokens_83 rfl ?_
              refine s_ldcT110 C dX8_splitIntoTokens_84 (fun qs84 qs84h => ?_)
              refine s_iload_n C dX8_splitIntoTokens_86 rfl ?_
              refine s_i2c C dX8_splitIntoTokens_87 ?_
              refine s_stridx C qs84h wml_X8_112 dX8_splitIntoTokens_88 (Nat.le_of_ble_eq_true rfl) (room_n hX (Nat.le_of_ble_eq_true rfl) (Nat.le_of_ble_eq_true rfl)) (cell_ok hX (Nat.le_of_ble_eq_true rfl) (Nat.le_of_ble_eq_true rfl)) ?_
              refine s_jn hf (fun j99 e99 hf => ?_)
              have k99 : ∀ (x17 : Int32), j99 x17 = some r → WW X h14 0 0 99 [some (rB (xD X).1 o), some (.int x2), none] [.int x17, .int x2, rB (xD X).1 v16] := by
                intro x17 hf
                rw [e99] at hf
                refine s_iastore C dX8_splitIntoTokens_99 hf (fun h18 hf => ?_)
                refine s_aload_n C dX8_splitIntoTokens_100 rfl ?_
                refine s_dup C dX8_splitIntoTokens_101 c1_r ?_
                refine s_getI C fl_X8_88 dX8_splitIntoTokens_102 hf (fun v19 hf => ?_)
                refine s_iconst C dX8_splitIntoTokens_105 (v := (1 : Int32)) (by decide) ?_
                refine s_iadd C dX8_splitIntoTokens_106 ?_
                refine s_putI C fl_X8_88 (by decide) dX8_splitIntoTokens_107 hf (fun h20 hf => ?_)
                exact k110 _ hf
              refine s_if_lt (tgt := 98) C dX8_splitIntoTokens_91 (by decide) hf (fun hf => ?_) (fun hf => ?_)
              · refine s_iconst C dX8_splitIntoTokens_98 (v := (1 : Int32)) (by decide) ?_
                refine s_weak (lv' := [some (rB (xD X).1 o), some (.int x2), none]) ⟨rfl, ⟨rfl, trivial⟩⟩ ?_
                exact k99 _ hf
              · refine s_iload_n C dX8_splitIntoTokens_94 rfl ?_
                refine s_goto (tgt := 99) C dX8_splitIntoTokens_95 (by decide) ?_
                refine s_weak (lv' := [some (rB (xD X).1 o), some (.int x2), none]) ⟨rfl, ⟨rfl, trivial⟩⟩ ?_
                exact k99 _ hf
            · refine s_aload_n C dX8_splitIntoTokens_71 rfl ?_
              refine s_iload_n C dX8_splitIntoTokens_72 rfl ?_
              refine s_callV (rvf := fun _ => none) (st := []) (fr := 1) (lo := 21) (mc := 0) (ms := 0) C [8] wc_X8_readNumber wml_X8_107 wim_X8_readNumber wsl_8_X8_readNumber dX8_splitIntoTokens_73 (As := [.inl x2]) rfl hf (fun x h' hF => c_X8_readNumber _ _ _ _ _ (x, h') hF) rfl (Nat.le_of_ble_eq_true rfl) (room_ok hX (Nat.le_of_ble_eq_true rfl) (Nat.le_of_ble_eq_true rfl)) (cell_ok hX (Nat.le_of_ble_eq_true rfl) (Nat.le_of_ble_eq_true rfl)) (fun _ h21 hf => ?_)
              refine s_goto (tgt := 110) C dX8_splitIntoTokens_76 (by decide) ?_
              refine s_weak (lv' := [some (rB (xD X).1 o), some (.int x2), none]) ⟨rfl, ⟨rfl, trivial⟩⟩ ?_
              exact k110 _ hf
          · refine s_aload_n C dX8_splitIntoTokens_56 rfl ?_
            refine s_iload_n C dX8_splitIntoTokens_57 rfl ?_
            refine s_callV (rvf := fun _ => none) (st := []) (fr := 10) (lo := 249) (mc := 0) (ms := 0) C [8] wc_X8_readWord wml_X8_101 wim_X8_readWord wsl_8_X8_readWord dX8_splitIntoTokens_58 (As := [.inl x2]) rfl hf (fun x h' hF => c_X8_readWord _ _ _ _ _ (x, h') hF) rfl (Nat.le_of_ble_eq_true rfl) (room_ok hX (Nat.le_of_ble_eq_true rfl) (Nat.le_of_ble_eq_true rfl)) (cell_ok hX (Nat.le_of_ble_eq_true rfl) (Nat.le_of_ble_eq_true rfl)) (fun _ h22 hf => ?_)
            refine s_goto (tgt := 110) C dX8_splitIntoTokens_61 (by decide) ?_
            refine s_weak (lv' := [some (rB (xD X).1 o), some (.int x2), none]) ⟨rfl, ⟨rfl, trivial⟩⟩ ?_
            exact k110 _ hf
        · refine s_aload_n C dX8_splitIntoTokens_41 rfl ?_
          refine s_getR C fl_X8_13 dX8_splitIntoTokens_42 hf (fun v23 hf => ?_)
          refine s_iload_n C dX8_splitIntoTokens_45 rfl ?_
          refine s_iconst C dX8_splitIntoTokens_46 (v := (0 : Int32)) (by decide) ?_
          refine s_iastore C dX8_splitIntoTokens_47 hf (fun h24 hf => ?_)
          exact s_return C E dX8_splitIntoTokens_48 hf (Nat.le_of_ble_eq_true rfl) (Nat.le_of_ble_eq_true rfl)
  exact k7 lpN _ _ hf
/-- HillBoxes$Tape.compile()I -/
noncomputable def f_X8_compile (o : Option Nat) (h : AH) : Option (Int32 × AH) :=
  rO h [8] o <| cl (f_X8_splitIntoTokens o h) fun _ h1 =>
  pI h1 [8] o 10 (0 : Int32) fun h2 =>
  pI h2 [8] o 8 (-1 : Int32) fun h3 =>
  pI h3 [8] o 7 (0 : Int32) fun h4 =>
  fR h4 [8] o 2 fun v5 =>
  aI h4 20 v5 (0 : Int32) fun v6 =>
  pI h4 [8] o 6 v6 fun h7 =>
  rO h7 [8] o <| cl (f_X8_readLine o h7) fun _ h8 =>
  lp (fun _ _ => none) (fun (L35 : Int32 → AH → Option (Int32 × AH)) (x9 : Int32) (h10 : AH) =>
    jn (
      fI h10 [8] o 6 fun v11 =>
      jn (fun (h12 : AH) =>
        fI h12 [8] o 8 fun v13 =>
        some (v13, h12)) fun j83 =>
      if v11 = 0 then
        j83 h10
      else
        rO h10 [8] o <| cl (f_X8_blame o h10) fun _ h14 =>
        j83 h14) fun j72 =>
    if (160 : Int32) ≤ x9 then
      j72
    else
      fI h10 [8] o 8 fun v15 =>
      if 0 ≤ v15 then
        j72
      else
        fI h10 [8] o 6 fun v16 =>
        if v16 = (59 : Int32) then
          rO h10 [8] o <| cl (f_X8_advance o h10) fun _ h17 =>
          rO h17 [8] o <| cl (f_X8_readLine o h17) fun _ h18 =>
          L35 (x9 + 1) h18
        else
          j72) lpN (0 : Int32) h8
set_option maxRecDepth 100000 in
set_option maxHeartbeats 4000000 in
theorem c_X8_compile (l : Launch) (D : DT) (o : Option Nat) (h : AH) (r : Int32 × AH) (hf : f_X8_compile o h = some r) : CM l D yX8_compile cX8_compile 2 (some .int) 104 6084 0 0 [.inr (.inr o)] h (some (.int r.1)) r.2 := by
  refine CM.of (by decide) (Nat.le_of_ble_eq_true rfl) (fun X hl C hD hX hnm E => ?_)
  subst hl
  subst hD
  have C : CX X RX8 cX8_compile 2 := C
  show WW X h 0 0 0 [some (rB (xD X).1 o), none] []
  unfold f_X8_compile at hf
  refine s_aload_n C dX8_compile_0 rfl ?_
  refine s_callV (rvf := fun _ => none) (st := []) (fr := 11) (lo := 271) (mc := 0) (ms := 0) C [8] wc_X8_splitIntoTokens wml_X8_38 wim_X8_splitIntoTokens wsl_8_X8_splitIntoTokens dX8_compile_1 (As := []) rfl hf (fun x h' hF => c_X8_splitIntoTokens _ _ _ _ (x, h') hF) rfl (Nat.le_of_ble_eq_true rfl) (room_ok hX (Nat.le_of_ble_eq_true rfl) (Nat.le_of_ble_eq_true rfl)) (cell_ok hX (Nat.le_of_ble_eq_true rfl) (Nat.le_of_ble_eq_true rfl)) (fun _ h1 hf => ?_)
  refine s_aload_n C dX8_compile_4 rfl ?_
  refine s_iconst C dX8_compile_5 (v := (0 : Int32)) (by decide) ?_
  refine s_putI C fl_X8_29 (by decide) dX8_compile_6 hf (fun h2 hf => ?_)
  refine s_aload_n C dX8_compile_9 rfl ?_
  refine s_iconst C dX8_compile_10 (v := (-1 : Int32)) (by decide) ?_
  refine s_putI C fl_X8_41 (by decide) dX8_compile_11 hf (fun h3 hf => ?_)
  refine s_aload_n C dX8_compile_14 rfl ?_
  refine s_iconst C dX8_compile_15 (v := (0 : Int32)) (by decide) ?_
  refine s_putI C fl_X8_44 (by decide) dX8_compile_16 hf (fun h4 hf => ?_)
  refine s_aload_n C dX8_compile_19 rfl ?_
  refine s_aload_n C dX8_compile_20 rfl ?_
  refine s_getR C fl_X8_13 dX8_compile_21 hf (fun v5 hf => ?_)
  refine s_iconst C dX8_compile_24 (v := (0 : Int32)) (by decide) ?_
  refine s_iaload C dX8_compile_25 hf (fun v6 hf => ?_)
  refine s_putI C fl_X8_47 (by decide) dX8_compile_26 hf (fun h7 hf => ?_)
  refine s_aload_n C dX8_compile_29 rfl ?_
  refine s_callV (rvf := fun _ => none) (st := []) (fr := 103) (lo := 6063) (mc := 0) (ms := 0) C [8] wc_X8_readLine wml_X8_50 wim_X8_readLine wsl_8_X8_readLine dX8_compile_30 (As := []) rfl hf (fun x h' hF => c_X8_readLine _ _ _ _ (x, h') hF) rfl (Nat.le_of_ble_eq_true rfl) (room_ok hX (Nat.le_of_ble_eq_true rfl) (Nat.le_of_ble_eq_true rfl)) (cell_ok hX (Nat.le_of_ble_eq_true rfl) (Nat.le_of_ble_eq_true rfl)) (fun _ h8 hf => ?_)
  refine s_iconst C dX8_compile_33 (v := (0 : Int32)) (by decide) ?_
  refine s_istore_n C dX8_compile_34 (by decide) (nc_r rfl) (lv' := [some (rB (xD X).1 o), some (.int (0 : Int32))]) rfl ?_
  refine s_lp2 hf (fun G35 z35 q35 hf => ?_)
  have k35 : ∀ (n : Nat) (x9 : Int32) (h10 : AH), G35 n x9 h10 = some r → WW X h10 0 0 35 [some (rB (xD X).1 o), some (.int x9)] [] := by
    intro n
    induction n with
    | zero =>
      intro x9 h10 hf
      rw [z35] at hf
      cases hf
    | succ n ih35 =>
      intro x9 h10 hf
      have hf := (q35 n x9 h10).symm.trans hf
      refine s_iload_n C dX8_compile_35 rfl ?_
      refine s_sipush C dX8_compile_36 (v := (160 : Int32)) (by decide) ?_
      refine s_jn hf (fun j72 e72 hf => ?_)
      have k72 : j72  = some r → WW X h10 0 0 72 [some (rB (xD X).1 o), none] [] := by
        intro  hf
        rw [e72] at hf
        refine s_aload_n C dX8_compile_72 rfl ?_
        refine s_getI C fl_X8_47 dX8_compile_73 hf (fun v11 hf => ?_)
        refine s_jn hf (fun j83 e83 hf => ?_)
        have k83 : ∀ (h12 : AH), j83 h12 = some r → WW X h12 0 0 83 [some (rB (xD X).1 o), none] [] := by
          intro h12 hf
          rw [e83] at hf
          refine s_aload_n C dX8_compile_83 rfl ?_
          refine s_getI C fl_X8_41 dX8_compile_84 hf (fun v13 hf => ?_)
          exact s_ireturn C E dX8_compile_87 hf (Nat.le_of_ble_eq_true rfl) (Nat.le_of_ble_eq_true rfl)
        refine s_if_eq (tgt := 83) C dX8_compile_76 (by decide) hf (fun hf => ?_) (fun hf => ?_)
        · exact k83 _ hf
        · refine s_aload_n C dX8_compile_79 rfl ?_
          refine s_callV (rvf := fun _ => none) (st := []) (fr := 0) (lo := 0) (mc := 0) (ms := 0) C [8] wc_X8_blame wml_X8_56 wim_X8_blame wsl_8_X8_blame dX8_compile_80 (As := []) rfl hf (fun x h' hF => c_X8_blame _ _ _ _ (x, h') hF) rfl (Nat.le_of_ble_eq_true rfl) (room_ok hX (Nat.le_of_ble_eq_true rfl) (Nat.le_of_ble_eq_true rfl)) (cell_ok hX (Nat.le_of_ble_eq_true rfl) (Nat.le_of_ble_eq_true rfl)) (fun _ h14 hf => ?_)
          exact k83 _ hf
      refine s_icmp_ge (tgt := 72) C dX8_compile_39 (by decide) hf (fun hf => ?_) (fun hf => ?_)
      · refine s_weak (lv' := [some (rB (xD X).1 o), none]) ⟨rfl, trivial⟩ ?_
        exact k72 hf
      · refine s_aload_n C dX8_compile_42 rfl ?_
        refine s_getI C fl_X8_41 dX8_compile_43 hf (fun v15 hf => ?_)
        refine s_if_ge (tgt := 72) C dX8_compile_46 (by decide) hf (fun hf => ?_) (fun hf => ?_)
        · refine s_weak (lv' := [some (rB (xD X).1 o), none]) ⟨rfl, trivial⟩ ?_
          exact k72 hf
        · refine s_aload_n C dX8_compile_49 rfl ?_
          refine s_getI C fl_X8_47 dX8_compile_50 hf (fun v16 hf => ?_)
          refine s_bipush C dX8_compile_53 (v := (59 : Int32)) (by decide) ?_
          refine s_icmp_ne (tgt := 72) C dX8_compile_55 (by decide) hf (fun hf => ?_) (fun hf => ?_)
          · refine s_weak (lv' := [some (rB (xD X).1 o), none]) ⟨rfl, trivial⟩ ?_
            exact k72 hf
          · refine s_aload_n C dX8_compile_58 rfl ?_
            refine s_callV (rvf := fun _ => none) (st := []) (fr := 0) (lo := 0) (mc := 0) (ms := 0) C [8] wc_X8_advance wml_X8_53 wim_X8_advance wsl_8_X8_advance dX8_compile_59 (As := []) rfl hf (fun x h' hF => c_X8_advance _ _ _ _ (x, h') hF) rfl (Nat.le_of_ble_eq_true rfl) (room_ok hX (Nat.le_of_ble_eq_true rfl) (Nat.le_of_ble_eq_true rfl)) (cell_ok hX (Nat.le_of_ble_eq_true rfl) (Nat.le_of_ble_eq_true rfl)) (fun _ h17 hf => ?_)
            refine s_aload_n C dX8_compile_62 rfl ?_
            refine s_callV (rvf := fun _ => none) (st := []) (fr := 103) (lo := 6063) (mc := 0) (ms := 0) C [8] wc_X8_readLine wml_X8_50 wim_X8_readLine wsl_8_X8_readLine dX8_compile_63 (As := []) rfl hf (fun x h' hF => c_X8_readLine _ _ _ _ (x, h') hF) rfl (Nat.le_of_ble_eq_true rfl) (room_ok hX (Nat.le_of_ble_eq_true rfl) (Nat.le_of_ble_eq_true rfl)) (cell_ok hX (Nat.le_of_ble_eq_true rfl) (Nat.le_of_ble_eq_true rfl)) (fun _ h18 hf => ?_)
            refine s_iinc C dX8_compile_66 (v := (x9 + 1)) rfl rfl (by decide) (nc_r rfl) (lv' := [some (rB (xD X).1 o), some (.int (x9 + 1))]) rfl ?_
            refine s_goto (tgt := 35) C dX8_compile_69 (by decide) ?_
            exact ih35 _ _ hf
  exact k35 lpN _ _ hf
/-- HillBoxes$Tape.copyCode([II)I -/
noncomputable def f_X8_copyCode (o : Option Nat) (a1 : Option Nat) (a2 : Int32) (h : AH) : Option (Int32 × AH) :=
  jn (
    some ((0 : Int32), h)) fun j15 =>
  if a2 < 0 then
    j15
  else
    aN h 20 a1 fun v1 =>
    fI h [8] o 10 fun v2 =>
    if a2 ≤ (v1 - v2) then
      fR h [8] o 9 fun v3 =>
      fI h [8] o 10 fun v4 =>
      cpI h v3 (0 : Int32) a1 a2 v4 fun h5 =>
      fI h5 [8] o 10 fun v6 =>
      some (v6, h5)
    else
      j15
set_option maxRecDepth 100000 in
set_option maxHeartbeats 4000000 in
theorem c_X8_copyCode (l : Launch) (D : DT) (o : Option Nat) (a1 : Option Nat) (a2 : Int32) (h : AH) (r : Int32 × AH) (hf : f_X8_copyCode o a1 a2 h = some r) : CM l D yX8_copyCode cX8_copyCode 3 (some .int) 1 26 0 0 [.inr (.inr o), .inr (.inr a1), .inl a2] h (some (.int r.1)) r.2 := by
  refine CM.of (by decide) (Nat.le_of_ble_eq_true rfl) (fun X hl C hD hX hnm E => ?_)
  subst hl
  subst hD
  have C : CX X RX8 cX8_copyCode 3 := C
  show WW X h 0 0 0 [some (rB (xD X).1 o), some (rB (xD X).1 a1), some (.int a2)] []
  unfold f_X8_copyCode at hf
  refine s_iload_n C dX8_copyCode_0 rfl ?_
  refine s_jn hf (fun j15 e15 hf => ?_)
  have k15 : j15  = some r → WW X h 0 0 15 [none, none, none] [] := by
    intro  hf
    rw [e15] at hf
    refine s_iconst C dX8_copyCode_15 (v := (0 : Int32)) (by decide) ?_
    exact s_ireturn C E dX8_copyCode_16 hf (Nat.le_of_ble_eq_true rfl) (Nat.le_of_ble_eq_true rfl)
  refine s_if_lt (tgt := 15) C dX8_copyCode_1 (by decide) hf (fun hf => ?_) (fun hf => ?_)
  · refine s_weak (lv' := [none, none, none]) trivial ?_
    exact k15 hf
  · refine s_iload_n C dX8_copyCode_4 rfl ?_
    refine s_aload_n C dX8_copyCode_5 rfl ?_
    refine s_alen C dX8_copyCode_6 (t := 20) (by decide) hf (fun v1 hf => ?_)
    refine s_aload_n C dX8_copyCode_7 rfl ?_
    refine s_getI C fl_X8_29 dX8_copyCode_8 hf (fun v2 hf => ?_)
    refine s_isub C dX8_copyCode_11 ?_
    refine s_icmp_le (tgt := 17) C dX8_copyCode_12 (by decide) hf (fun hf => ?_) (fun hf => ?_)
    · refine s_aload_n C dX8_copyCode_17 rfl ?_
      refine s_getR C fl_X8_22 dX8_copyCode_18 hf (fun v3 hf => ?_)
      refine s_iconst C dX8_copyCode_21 (v := (0 : Int32)) (by decide) ?_
      refine s_aload_n C dX8_copyCode_22 rfl ?_
      refine s_iload_n C dX8_copyCode_23 rfl ?_
      refine s_aload_n C dX8_copyCode_24 rfl ?_
      refine s_getI C fl_X8_29 dX8_copyCode_25 hf (fun v4 hf => ?_)
      refine s_copyI C wml_X8_32 wnat wst_cpy wini_sys dX8_copyCode_28 hf (Nat.le_of_ble_eq_true rfl) (room_n hX (Nat.le_of_ble_eq_true rfl) (Nat.le_of_ble_eq_true rfl)) (fun h5 hf => ?_)
      refine s_aload_n C dX8_copyCode_31 rfl ?_
      refine s_getI C fl_X8_29 dX8_copyCode_32 hf (fun v6 hf => ?_)
      exact s_ireturn C E dX8_copyCode_35 hf (Nat.le_of_ble_eq_true rfl) (Nat.le_of_ble_eq_true rfl)
    · refine s_weak (lv' := [none, none, none]) trivial ?_
      exact k15 hf
/-- HillBoxes$Rules.make(II)I -/
noncomputable def f_X6_make (o : Option Nat) (a1 : Int32) (a2 : Int32) (h : AH) : Option (Int32 × AH) :=
  fR h [6] o 0 fun v1 =>
  rO h [8] v1 <| cl (f_X8_compile v1 h) fun v3 h2 =>
  fR h2 [6] o 0 fun v4 =>
  pI h2 [8] v4 0 (0 : Int32) fun h5 =>
  if v3 < 0 then
    fR h5 [6] o 4 fun v6 =>
    fI h5 [6] o 1 fun v7 =>
    bI h5 20 v6 v7 a1 fun h8 =>
    fR h8 [6] o 5 fun v9 =>
    fI h8 [6] o 1 fun v10 =>
    fR h8 [6] o 3 fun v11 =>
    fI h8 [3] v11 0 fun v12 =>
    bI h8 20 v9 v10 v12 fun h13 =>
    fR h13 [6] o 6 fun v14 =>
    fI h13 [6] o 1 fun v15 =>
    bI h13 20 v14 v15 a2 fun h16 =>
    fR h16 [6] o 8 fun v17 =>
    fI h16 [6] o 1 fun v18 =>
    fR h16 [6] o 0 fun v19 =>
    fR h16 [6] o 7 fun v20 =>
    fI h16 [6] o 1 fun v21 =>
    rO h16 [8] v19 <| cl (f_X8_copyCode v19 v20 (v21 * (161 : Int32)) h16) fun v23 h22 =>
    bI h22 20 v17 v18 v23 fun h24 =>
    fI h24 [6] o 1 fun v25 =>
    pI h24 [6] o 1 (v25 + (1 : Int32)) fun h26 =>
    fI h26 [6] o 1 fun v27 =>
    some ((v27 - (1 : Int32)), h26)
  else
    some (((-100 : Int32) - v3), h5)
set_option maxRecDepth 100000 in
set_option maxHeartbeats 4000000 in
theorem c_X6_make (l : Launch) (D : DT) (o : Option Nat) (a1 : Int32) (a2 : Int32) (h : AH) (r : Int32 × AH) (hf : f_X6_make o a1 a2 h = some r) : CM l D yX6_make cX6_make 4 (some .int) 105 6105 0 0 [.inr (.inr o), .inl a1, .inl a2] h (some (.int r.1)) r.2 := by
  refine CM.of (by decide) (Nat.le_of_ble_eq_true rfl) (fun X hl C hD hX hnm E => ?_)
  subst hl
  subst hD
  have C : CX X RX6 cX6_make 4 := C
  show WW X h 0 0 0 [some (rB (xD X).1 o), some (.int a1), some (.int a2), none] []
  unfold f_X6_make at hf
  refine s_aload_n C dX6_make_0 rfl ?_
  refine s_getR C fl_X6_12 dX6_make_1 hf (fun v1 hf => ?_)
  refine s_callV (rvf := fun x => some (.int x)) (st := []) (fr := 104) (lo := 6084) (mc := 0) (ms := 0) C [8] wc_X8_compile wml_X6_48 wim_X8_compile wsl_8_X8_compile dX6_make_4 (As := []) rfl hf (fun x h' hF => c_X8_compile _ _ _ _ (x, h') hF) rfl (Nat.le_of_ble_eq_true rfl) (room_ok hX (Nat.le_of_ble_eq_true rfl) (Nat.le_of_ble_eq_true rfl)) (cell_ok hX (Nat.le_of_ble_eq_true rfl) (Nat.le_of_ble_eq_true rfl)) (fun v3 h2 hf => ?_)
  refine s_istore_n C dX6_make_7 (by decide) (nc_i rfl) (lv' := [some (rB (xD X).1 o), some (.int a1), some (.int a2), some (.int v3)]) rfl ?_
  refine s_aload_n C dX6_make_8 rfl ?_
  refine s_getR C fl_X6_12 dX6_make_9 hf (fun v4 hf => ?_)
  refine s_iconst C dX6_make_12 (v := (0 : Int32)) (by decide) ?_
  refine s_putI C fl_X6_52 (by decide) dX6_make_13 hf (fun h5 hf => ?_)
  refine s_iload_n C dX6_make_16 rfl ?_
  refine s_if_lt (tgt := 25) C dX6_make_17 (by decide) hf (fun hf => ?_) (fun hf => ?_)
  · refine s_aload_n C dX6_make_25 rfl ?_
    refine s_getR C fl_X6_22 dX6_make_26 hf (fun v6 hf => ?_)
    refine s_aload_n C dX6_make_29 rfl ?_
    refine s_getI C fl_X6_45 dX6_make_30 hf (fun v7 hf => ?_)
    refine s_iload_n C dX6_make_33 rfl ?_
    refine s_iastore C dX6_make_34 hf (fun h8 hf => ?_)
    refine s_aload_n C dX6_make_35 rfl ?_
    refine s_getR C fl_X6_26 dX6_make_36 hf (fun v9 hf => ?_)
    refine s_aload_n C dX6_make_39 rfl ?_
    refine s_getI C fl_X6_45 dX6_make_40 hf (fun v10 hf => ?_)
    refine s_aload_n C dX6_make_43 rfl ?_
    refine s_getR C fl_X6_41 dX6_make_44 hf (fun v11 hf => ?_)
    refine s_getI C fl_X6_55 dX6_make_47 hf (fun v12 hf => ?_)
    refine s_iastore C dX6_make_50 hf (fun h13 hf => ?_)
    refine s_aload_n C dX6_make_51 rfl ?_
    refine s_getR C fl_X6_29 dX6_make_52 hf (fun v14 hf => ?_)
    refine s_aload_n C dX6_make_55 rfl ?_
    refine s_getI C fl_X6_45 dX6_make_56 hf (fun v15 hf => ?_)
    refine s_iload_n C dX6_make_59 rfl ?_
    refine s_iastore C dX6_make_60 hf (fun h16 hf => ?_)
    refine s_aload_n C dX6_make_61 rfl ?_
    refine s_getR C fl_X6_35 dX6_make_62 hf (fun v17 hf => ?_)
    refine s_aload_n C dX6_make_65 rfl ?_
    refine s_getI C fl_X6_45 dX6_make_66 hf (fun v18 hf => ?_)
    refine s_aload_n C dX6_make_69 rfl ?_
    refine s_getR C fl_X6_12 dX6_make_70 hf (fun v19 hf => ?_)
    refine s_aload_n C dX6_make_73 rfl ?_
    refine s_getR C fl_X6_32 dX6_make_74 hf (fun v20 hf => ?_)
    refine s_aload_n C dX6_make_77 rfl ?_
    refine s_getI C fl_X6_45 dX6_make_78 hf (fun v21 hf => ?_)
    refine s_sipush C dX6_make_81 (v := (161 : Int32)) (by decide) ?_
    refine s_imul C dX6_make_84 ?_
    refine s_callV (rvf := fun x => some (.int x)) (st := [.int v18, rB (xD X).1 v17]) (fr := 1) (lo := 26) (mc := 0) (ms := 0) C [8] wc_X8_copyCode wml_X6_60 wim_X8_copyCode wsl_8_X8_copyCode dX6_make_85 (As := [.inr (.inr v20), .inl (v21 * (161 : Int32))]) rfl hf (fun x h' hF => c_X8_copyCode _ _ _ _ _ _ (x, h') hF) rfl (Nat.le_of_ble_eq_true rfl) (room_ok hX (Nat.le_of_ble_eq_true rfl) (Nat.le_of_ble_eq_true rfl)) (cell_ok hX (Nat.le_of_ble_eq_true rfl) (Nat.le_of_ble_eq_true rfl)) (fun v23 h22 hf => ?_)
    refine s_iastore C dX6_make_88 hf (fun h24 hf => ?_)
    refine s_aload_n C dX6_make_89 rfl ?_
    refine s_dup C dX6_make_90 c1_r ?_
    refine s_getI C fl_X6_45 dX6_make_91 hf (fun v25 hf => ?_)
    refine s_iconst C dX6_make_94 (v := (1 : Int32)) (by decide) ?_
    refine s_iadd C dX6_make_95 ?_
    refine s_putI C fl_X6_45 (by decide) dX6_make_96 hf (fun h26 hf => ?_)
    refine s_aload_n C dX6_make_99 rfl ?_
    refine s_getI C fl_X6_45 dX6_make_100 hf (fun v27 hf => ?_)
    refine s_iconst C dX6_make_103 (v := (1 : Int32)) (by decide) ?_
    refine s_isub C dX6_make_104 ?_
    exact s_ireturn C E dX6_make_105 hf (Nat.le_of_ble_eq_true rfl) (Nat.le_of_ble_eq_true rfl)
  · refine s_bipush C dX6_make_20 (v := (-100 : Int32)) (by decide) ?_
    refine s_iload_n C dX6_make_22 rfl ?_
    refine s_isub C dX6_make_23 ?_
    exact s_ireturn C E dX6_make_24 hf (Nat.le_of_ble_eq_true rfl) (Nat.le_of_ble_eq_true rfl)
/-- HillBoxes.rule(II)I -/
noncomputable def f_X11_rule (o : Option Nat) (a1 : Int32) (a2 : Int32) (h : AH) : Option (Int32 × AH) :=
  cl (f_X11_isUse a1 h) fun v2 h1 =>
  jn (fun (h3 : AH) =>
    some ((-1 : Int32), h3)) fun j14 =>
  if v2 = 0 then
    j14 h1
  else
    cl (f_X11_isDay a2 h1) fun v5 h4 =>
    if v5 = 0 then
      j14 h4
    else
      fR h4 [11] o 1 fun v6 =>
      rO h4 [6] v6 <| cl (f_X6_isFull v6 h4) fun v8 h7 =>
      if v8 = 0 then
        fR h7 [11] o 1 fun v9 =>
        rO h7 [6] v9 <| cl (f_X6_make v9 a1 a2 h7) fun v11 h10 =>
        some (v11, h10)
      else
        some ((-3 : Int32), h7)
set_option maxRecDepth 100000 in
set_option maxHeartbeats 4000000 in
theorem c_X11_rule (l : Launch) (D : DT) (o : Option Nat) (a1 : Int32) (a2 : Int32) (h : AH) (r : Int32 × AH) (hf : f_X11_rule o a1 a2 h = some r) : CM l D yX11_rule cX11_rule 3 (some .int) 106 6128 0 0 [.inr (.inr o), .inl a1, .inl a2] h (some (.int r.1)) r.2 := by
  refine CM.of (by decide) (Nat.le_of_ble_eq_true rfl) (fun X hl C hD hX hnm E => ?_)
  subst hl
  subst hD
  have C : CX X RX11 cX11_rule 3 := C
  show WW X h 0 0 0 [some (rB (xD X).1 o), some (.int a1), some (.int a2)] []
  unfold f_X11_rule at hf
  refine s_iload_n C dX11_rule_0 rfl ?_
  refine s_callS (rvf := fun x => some (.int x)) (st := []) (fr := 0) (lo := 0) (mc := 0) (ms := 0) C wc_X11_isUse wml_X11_194 wst_X11_isUse dX11_rule_1 (As := [.inl a1]) rfl hf (fun x h' hF => c_X11_isUse _ _ _ _ (x, h') hF) rfl (Nat.le_of_ble_eq_true rfl) (room_ok hX (Nat.le_of_ble_eq_true rfl) (Nat.le_of_ble_eq_true rfl)) (cell_ok hX (Nat.le_of_ble_eq_true rfl) (Nat.le_of_ble_eq_true rfl)) (fun v2 h1 hf => ?_)
  refine s_jn hf (fun j14 e14 hf => ?_)
  have k14 : ∀ (h3 : AH), j14 h3 = some r → WW X h3 0 0 14 [none, none, none] [] := by
    intro h3 hf
    rw [e14] at hf
    refine s_iconst C dX11_rule_14 (v := (-1 : Int32)) (by decide) ?_
    exact s_ireturn C E dX11_rule_15 hf (Nat.le_of_ble_eq_true rfl) (Nat.le_of_ble_eq_true rfl)
  refine s_if_eq (tgt := 14) C dX11_rule_4 (by decide) hf (fun hf => ?_) (fun hf => ?_)
  · refine s_weak (lv' := [none, none, none]) trivial ?_
    exact k14 _ hf
  · refine s_iload_n C dX11_rule_7 rfl ?_
    refine s_callS (rvf := fun x => some (.int x)) (st := []) (fr := 0) (lo := 0) (mc := 0) (ms := 0) C wc_X11_isDay wml_X11_173 wst_X11_isDay dX11_rule_8 (As := [.inl a2]) rfl hf (fun x h' hF => c_X11_isDay _ _ _ _ (x, h') hF) rfl (Nat.le_of_ble_eq_true rfl) (room_ok hX (Nat.le_of_ble_eq_true rfl) (Nat.le_of_ble_eq_true rfl)) (cell_ok hX (Nat.le_of_ble_eq_true rfl) (Nat.le_of_ble_eq_true rfl)) (fun v5 h4 hf => ?_)
    refine s_if_ne (tgt := 16) C dX11_rule_11 (by decide) hf (fun hf => ?_) (fun hf => ?_)
    · refine s_aload_n C dX11_rule_16 rfl ?_
      refine s_getR C fl_X11_21 dX11_rule_17 hf (fun v6 hf => ?_)
      refine s_callV (rvf := fun x => some (.int x)) (st := []) (fr := 0) (lo := 0) (mc := 0) (ms := 0) C [6] wc_X6_isFull wml_X11_197 wim_X6_isFull wsl_6_X6_isFull dX11_rule_20 (As := []) rfl hf (fun x h' hF => c_X6_isFull _ _ _ _ (x, h') hF) rfl (Nat.le_of_ble_eq_true rfl) (room_ok hX (Nat.le_of_ble_eq_true rfl) (Nat.le_of_ble_eq_true rfl)) (cell_ok hX (Nat.le_of_ble_eq_true rfl) (Nat.le_of_ble_eq_true rfl)) (fun v8 h7 hf => ?_)
      refine s_if_eq (tgt := 29) C dX11_rule_23 (by decide) hf (fun hf => ?_) (fun hf => ?_)
      · refine s_aload_n C dX11_rule_29 rfl ?_
        refine s_getR C fl_X11_21 dX11_rule_30 hf (fun v9 hf => ?_)
        refine s_iload_n C dX11_rule_33 rfl ?_
        refine s_iload_n C dX11_rule_34 rfl ?_
        refine s_callV (rvf := fun x => some (.int x)) (st := []) (fr := 105) (lo := 6105) (mc := 0) (ms := 0) C [6] wc_X6_make wml_X11_198 wim_X6_make wsl_6_X6_make dX11_rule_35 (As := [.inl a1, .inl a2]) rfl hf (fun x h' hF => c_X6_make _ _ _ _ _ _ (x, h') hF) rfl (Nat.le_of_ble_eq_true rfl) (room_ok hX (Nat.le_of_ble_eq_true rfl) (Nat.le_of_ble_eq_true rfl)) (cell_ok hX (Nat.le_of_ble_eq_true rfl) (Nat.le_of_ble_eq_true rfl)) (fun v11 h10 hf => ?_)
        exact s_ireturn C E dX11_rule_38 hf (Nat.le_of_ble_eq_true rfl) (Nat.le_of_ble_eq_true rfl)
      · refine s_bipush C dX11_rule_26 (v := (-3 : Int32)) (by decide) ?_
        exact s_ireturn C E dX11_rule_28 hf (Nat.le_of_ble_eq_true rfl) (Nat.le_of_ble_eq_true rfl)
    · refine s_weak (lv' := [none, none, none]) trivial ?_
      exact k14 _ hf
/-- HillBoxes.canSay(III)Z -/
noncomputable def f_X11_canSay (o : Option Nat) (a1 : Int32) (a2 : Int32) (a3 : Int32) (h : AH) : Option (Int32 × AH) :=
  jn (fun (x1 : Int32) =>
    fR h [11] o 0 fun v2 =>
    rO h [3] v2 <| cl (f_X3_finderAt v2 a2 h) fun v4 h3 =>
    jn (fun (x5 : Int32) =>
      fR h3 [11] o 0 fun v6 =>
      rO h3 [3] v6 <| cl (f_X3_boxAt v6 a3 h3) fun v8 h7 =>
      jn (fun (x9 : Int32) =>
        if a1 = 0 then
          jn (fun (x10 : Int32) =>
            rz x10 h7) fun j99 =>
          jn (
            j99 (0 : Int32)) fun j98 =>
          if x1 = 0 then
            j98
          else
            if a3 = (-1 : Int32) then
              j99 (1 : Int32)
            else
              j98
        else
        if a1 = 1 then
          jn (fun (x11 : Int32) (h12 : AH) =>
            rz x11 h12) fun j117 =>
          jn (fun (h13 : AH) =>
            j117 (0 : Int32) h13) fun j116 =>
          if x5 = 0 then
            j116 h7
          else
            cl (f_X11_isKindOfBox a3 h7) fun v15 h14 =>
            if v15 = 0 then
              j116 h14
            else
              j117 (1 : Int32) h14
        else
        if a1 = 2 then
          rz (0 : Int32) h7
        else
        if a1 = 3 then
          jn (fun (x16 : Int32) =>
            rz x16 h7) fun j133 =>
          jn (
            j133 (0 : Int32)) fun j132 =>
          if x1 = 0 then
            j132
          else
            if x9 = 0 then
              j132
            else
              j133 (1 : Int32)
        else
        if a1 = 4 then
          jn (fun (x17 : Int32) =>
            rz x17 h7) fun j149 =>
          jn (
            j149 (0 : Int32)) fun j148 =>
          if x5 = 0 then
            j148
          else
            if x9 = 0 then
              j148
            else
              j149 (1 : Int32)
        else
          rz (0 : Int32) h7) fun j46 =>
      if v8 = none then
        j46 (0 : Int32)
      else
        j46 (1 : Int32)) fun j28 =>
    if v4 = none then
      j28 (0 : Int32)
    else
      j28 (1 : Int32)) fun j10 =>
  if a2 = (-1 : Int32) then
    j10 (1 : Int32)
  else
    j10 (0 : Int32)
set_option maxRecDepth 100000 in
set_option maxHeartbeats 4000000 in
theorem c_X11_canSay (l : Launch) (D : DT) (o : Option Nat) (a1 : Int32) (a2 : Int32) (a3 : Int32) (h : AH) (r : Int32 × AH) (hf : f_X11_canSay o a1 a2 a3 h = some r) : CM l D yX11_canSay cX11_canSay 7 (some .boolean) 1 22 0 0 [.inr (.inr o), .inl a1, .inl a2, .inl a3] h (some (.int r.1)) r.2 := by
  refine CM.of (by decide) (Nat.le_of_ble_eq_true rfl) (fun X hl C hD hX hnm E => ?_)
  subst hl
  subst hD
  have C : CX X RX11 cX11_canSay 7 := C
  show WW X h 0 0 0 [some (rB (xD X).1 o), some (.int a1), some (.int a2), some (.int a3), none, none, none] []
  unfold f_X11_canSay at hf
  refine s_iload_n C dX11_canSay_0 rfl ?_
  refine s_iconst C dX11_canSay_1 (v := (-1 : Int32)) (by decide) ?_
  refine s_jn hf (fun j10 e10 hf => ?_)
  have k10 : ∀ (x1 : Int32), j10 x1 = some r → WW X h 0 0 10 [some (rB (xD X).1 o), some (.int a1), some (.int a2), some (.int a3), none, none, none] [.int x1] := by
    intro x1 hf
    rw [e10] at hf
    refine s_istore C dX11_canSay_10 (by decide) (nc_i rfl) (lv' := [some (rB (xD X).1 o), some (.int a1), some (.int a2), some (.int a3), some (.int x1), none, none]) rfl ?_
    refine s_aload_n C dX11_canSay_12 rfl ?_
    refine s_getR C fl_X11_10 dX11_canSay_13 hf (fun v2 hf => ?_)
    refine s_iload_n C dX11_canSay_16 rfl ?_
    refine s_callV (rvf := fun x => some (rB (xD X).1 x)) (st := []) (fr := 0) (lo := 0) (mc := 0) (ms := 0) C [3] wc_X3_finderAt wml_X11_90 wim_X3_finderAt wsl_3_X3_finderAt dX11_canSay_17 (As := [.inl a2]) rfl hf (fun x h' hF => c_X3_finderAt _ _ _ _ _ (x, h') hF) rfl (Nat.le_of_ble_eq_true rfl) (room_ok hX (Nat.le_of_ble_eq_true rfl) (Nat.le_of_ble_eq_true rfl)) (cell_ok hX (Nat.le_of_ble_eq_true rfl) (Nat.le_of_ble_eq_true rfl)) (fun v4 h3 hf => ?_)
    refine s_jn hf (fun j28 e28 hf => ?_)
    have k28 : ∀ (x5 : Int32), j28 x5 = some r → WW X h3 0 0 28 [some (rB (xD X).1 o), some (.int a1), none, some (.int a3), some (.int x1), none, none] [.int x5] := by
      intro x5 hf
      rw [e28] at hf
      refine s_istore C dX11_canSay_28 (by decide) (nc_i rfl) (lv' := [some (rB (xD X).1 o), some (.int a1), none, some (.int a3), some (.int x1), some (.int x5), none]) rfl ?_
      refine s_aload_n C dX11_canSay_30 rfl ?_
      refine s_getR C fl_X11_10 dX11_canSay_31 hf (fun v6 hf => ?_)
      refine s_iload_n C dX11_canSay_34 rfl ?_
      refine s_callV (rvf := fun x => some (rB (xD X).1 x)) (st := []) (fr := 0) (lo := 0) (mc := 0) (ms := 0) C [3] wc_X3_boxAt wml_X11_130 wim_X3_boxAt wsl_3_X3_boxAt dX11_canSay_35 (As := [.inl a3]) rfl hf (fun x h' hF => c_X3_boxAt _ _ _ _ _ (x, h') hF) rfl (Nat.le_of_ble_eq_true rfl) (room_ok hX (Nat.le_of_ble_eq_true rfl) (Nat.le_of_ble_eq_true rfl)) (cell_ok hX (Nat.le_of_ble_eq_true rfl) (Nat.le_of_ble_eq_true rfl)) (fun v8 h7 hf => ?_)
      refine s_jn hf (fun j46 e46 hf => ?_)
      have k46 : ∀ (x9 : Int32), j46 x9 = some r → WW X h7 0 0 46 [none, some (.int a1), none, some (.int a3), some (.int x1), some (.int x5), none] [.int x9] := by
        intro x9 hf
        rw [e46] at hf
        refine s_istore C dX11_canSay_46 (by decide) (nc_i rfl) (lv' := [none, some (.int a1), none, some (.int a3), some (.int x1), some (.int x5), some (.int x9)]) rfl ?_
        refine s_iload_n C dX11_canSay_48 rfl ?_
        refine s_ite hf (fun e hf => ?_) (fun n0 hf => ?_)
        · refine s_tsw1 (tgt := 84) C dX11_canSay_49 e (by decide) (by decide) rfl (by decide) ?_
          refine s_iload C dX11_canSay_84 rfl ?_
          refine s_jn hf (fun j99 e99 hf => ?_)
          have k99 : ∀ (x10 : Int32), j99 x10 = some r → WW X h7 0 0 99 [none, none, none, none, none, none, none] [.int x10] := by
            intro x10 hf
            rw [e99] at hf
            exact s_zreturn C E dX11_canSay_99 hf (Nat.le_of_ble_eq_true rfl) (Nat.le_of_ble_eq_true rfl)
          refine s_jn hf (fun j98 e98 hf => ?_)
          have k98 : j98  = some r → WW X h7 0 0 98 [none, none, none, none, none, none, none] [] := by
            intro  hf
            rw [e98] at hf
            refine s_iconst C dX11_canSay_98 (v := (0 : Int32)) (by decide) ?_
            exact k99 _ hf
          refine s_if_eq (tgt := 98) C dX11_canSay_86 (by decide) hf (fun hf => ?_) (fun hf => ?_)
          · refine s_weak (lv' := [none, none, none, none, none, none, none]) trivial ?_
            exact k98 hf
          · refine s_iload_n C dX11_canSay_89 rfl ?_
            refine s_iconst C dX11_canSay_90 (v := (-1 : Int32)) (by decide) ?_
            refine s_icmp_ne (tgt := 98) C dX11_canSay_91 (by decide) hf (fun hf => ?_) (fun hf => ?_)
            · refine s_weak (lv' := [none, none, none, none, none, none, none]) trivial ?_
              exact k98 hf
            · refine s_iconst C dX11_canSay_94 (v := (1 : Int32)) (by decide) ?_
              refine s_goto (tgt := 99) C dX11_canSay_95 (by decide) ?_
              refine s_weak (lv' := [none, none, none, none, none, none, none]) trivial ?_
              exact k99 _ hf
        refine s_ite hf (fun e hf => ?_) (fun n1 hf => ?_)
        · refine s_tsw1 (tgt := 100) C dX11_canSay_49 e (by decide) (by decide) rfl (by decide) ?_
          refine s_iload C dX11_canSay_100 rfl ?_
          refine s_jn hf (fun j117 e117 hf => ?_)
          have k117 : ∀ (x11 : Int32) (h12 : AH), j117 x11 h12 = some r → WW X h12 0 0 117 [none, none, none, none, none, none, none] [.int x11] := by
            intro x11 h12 hf
            rw [e117] at hf
            exact s_zreturn C E dX11_canSay_117 hf (Nat.le_of_ble_eq_true rfl) (Nat.le_of_ble_eq_true rfl)
          refine s_jn hf (fun j116 e116 hf => ?_)
          have k116 : ∀ (h13 : AH), j116 h13 = some r → WW X h13 0 0 116 [none, none, none, none, none, none, none] [] := by
            intro h13 hf
            rw [e116] at hf
            refine s_iconst C dX11_canSay_116 (v := (0 : Int32)) (by decide) ?_
            exact k117 _ _ hf
          refine s_if_eq (tgt := 116) C dX11_canSay_102 (by decide) hf (fun hf => ?_) (fun hf => ?_)
          · refine s_weak (lv' := [none, none, none, none, none, none, none]) trivial ?_
            exact k116 _ hf
          · refine s_iload_n C dX11_canSay_105 rfl ?_
            refine s_callS (rvf := fun x => some (.int x)) (st := []) (fr := 0) (lo := 0) (mc := 0) (ms := 0) C wc_X11_isKindOfBox wml_X11_493 wst_X11_isKindOfBox dX11_canSay_106 (As := [.inl a3]) rfl hf (fun x h' hF => c_X11_isKindOfBox _ _ _ _ (x, h') hF) rfl (Nat.le_of_ble_eq_true rfl) (room_ok hX (Nat.le_of_ble_eq_true rfl) (Nat.le_of_ble_eq_true rfl)) (cell_ok hX (Nat.le_of_ble_eq_true rfl) (Nat.le_of_ble_eq_true rfl)) (fun v15 h14 hf => ?_)
            refine s_if_eq (tgt := 116) C dX11_canSay_109 (by decide) hf (fun hf => ?_) (fun hf => ?_)
            · refine s_weak (lv' := [none, none, none, none, none, none, none]) trivial ?_
              exact k116 _ hf
            · refine s_iconst C dX11_canSay_112 (v := (1 : Int32)) (by decide) ?_
              refine s_goto (tgt := 117) C dX11_canSay_113 (by decide) ?_
              refine s_weak (lv' := [none, none, none, none, none, none, none]) trivial ?_
              exact k117 _ _ hf
        refine s_ite hf (fun e hf => ?_) (fun n2 hf => ?_)
        · refine s_tsw1 (tgt := 150) C dX11_canSay_49 e (by decide) (by decide) rfl (by decide) ?_
          refine s_iconst C dX11_canSay_150 (v := (0 : Int32)) (by decide) ?_
          exact s_zreturn C E dX11_canSay_151 hf (Nat.le_of_ble_eq_true rfl) (Nat.le_of_ble_eq_true rfl)
        refine s_ite hf (fun e hf => ?_) (fun n3 hf => ?_)
        · refine s_tsw1 (tgt := 118) C dX11_canSay_49 e (by decide) (by decide) rfl (by decide) ?_
          refine s_iload C dX11_canSay_118 rfl ?_
          refine s_jn hf (fun j133 e133 hf => ?_)
          have k133 : ∀ (x16 : Int32), j133 x16 = some r → WW X h7 0 0 133 [none, none, none, none, none, none, none] [.int x16] := by
            intro x16 hf
            rw [e133] at hf
            exact s_zreturn C E dX11_canSay_133 hf (Nat.le_of_ble_eq_true rfl) (Nat.le_of_ble_eq_true rfl)
          refine s_jn hf (fun j132 e132 hf => ?_)
          have k132 : j132  = some r → WW X h7 0 0 132 [none, none, none, none, none, none, none] [] := by
            intro  hf
            rw [e132] at hf
            refine s_iconst C dX11_canSay_132 (v := (0 : Int32)) (by decide) ?_
            exact k133 _ hf
          refine s_if_eq (tgt := 132) C dX11_canSay_120 (by decide) hf (fun hf => ?_) (fun hf => ?_)
          · refine s_weak (lv' := [none, none, none, none, none, none, none]) trivial ?_
            exact k132 hf
          · refine s_iload C dX11_canSay_123 rfl ?_
            refine s_if_eq (tgt := 132) C dX11_canSay_125 (by decide) hf (fun hf => ?_) (fun hf => ?_)
            · refine s_weak (lv' := [none, none, none, none, none, none, none]) trivial ?_
              exact k132 hf
            · refine s_iconst C dX11_canSay_128 (v := (1 : Int32)) (by decide) ?_
              refine s_goto (tgt := 133) C dX11_canSay_129 (by decide) ?_
              refine s_weak (lv' := [none, none, none, none, none, none, none]) trivial ?_
              exact k133 _ hf
        refine s_ite hf (fun e hf => ?_) (fun n4 hf => ?_)
        · refine s_tsw1 (tgt := 134) C dX11_canSay_49 e (by decide) (by decide) rfl (by decide) ?_
          refine s_iload C dX11_canSay_134 rfl ?_
          refine s_jn hf (fun j149 e149 hf => ?_)
          have k149 : ∀ (x17 : Int32), j149 x17 = some r → WW X h7 0 0 149 [none, none, none, none, none, none, none] [.int x17] := by
            intro x17 hf
            rw [e149] at hf
            exact s_zreturn C E dX11_canSay_149 hf (Nat.le_of_ble_eq_true rfl) (Nat.le_of_ble_eq_true rfl)
          refine s_jn hf (fun j148 e148 hf => ?_)
          have k148 : j148  = some r → WW X h7 0 0 148 [none, none, none, none, none, none, none] [] := by
            intro  hf
            rw [e148] at hf
            refine s_iconst C dX11_canSay_148 (v := (0 : Int32)) (by decide) ?_
            exact k149 _ hf
          refine s_if_eq (tgt := 148) C dX11_canSay_136 (by decide) hf (fun hf => ?_) (fun hf => ?_)
          · refine s_weak (lv' := [none, none, none, none, none, none, none]) trivial ?_
            exact k148 hf
          · refine s_iload C dX11_canSay_139 rfl ?_
            refine s_if_eq (tgt := 148) C dX11_canSay_141 (by decide) hf (fun hf => ?_) (fun hf => ?_)
            · refine s_weak (lv' := [none, none, none, none, none, none, none]) trivial ?_
              exact k148 hf
            · refine s_iconst C dX11_canSay_144 (v := (1 : Int32)) (by decide) ?_
              refine s_goto (tgt := 149) C dX11_canSay_145 (by decide) ?_
              refine s_weak (lv' := [none, none, none, none, none, none, none]) trivial ?_
              exact k149 _ hf
        refine s_tswD (tgt := 150) C dX11_canSay_49 (by have n0x := n32 (i := 0) n0 rfl; have n1x := n32 (i := 1) n1 rfl; have n2x := n32 (i := 2) n2 rfl; have n3x := n32 (i := 3) n3 rfl; have n4x := n32 (i := 4) n4 rfl; omega) (by decide) ?_
        refine s_iconst C dX11_canSay_150 (v := (0 : Int32)) (by decide) ?_
        exact s_zreturn C E dX11_canSay_151 hf (Nat.le_of_ble_eq_true rfl) (Nat.le_of_ble_eq_true rfl)
      refine s_ifnull (tgt := 45) C dX11_canSay_38 (by decide) hf (fun hf => ?_) (fun hf => ?_)
      · refine s_iconst C dX11_canSay_45 (v := (0 : Int32)) (by decide) ?_
        refine s_weak (lv' := [none, some (.int a1), none, some (.int a3), some (.int x1), some (.int x5), none]) ⟨rfl, ⟨rfl, ⟨rfl, ⟨rfl, trivial⟩⟩⟩⟩ ?_
        exact k46 _ hf
      · refine s_iconst C dX11_canSay_41 (v := (1 : Int32)) (by decide) ?_
        refine s_goto (tgt := 46) C dX11_canSay_42 (by decide) ?_
        refine s_weak (lv' := [none, some (.int a1), none, some (.int a3), some (.int x1), some (.int x5), none]) ⟨rfl, ⟨rfl, ⟨rfl, ⟨rfl, trivial⟩⟩⟩⟩ ?_
        exact k46 _ hf
    refine s_ifnull (tgt := 27) C dX11_canSay_20 (by decide) hf (fun hf => ?_) (fun hf => ?_)
    · refine s_iconst C dX11_canSay_27 (v := (0 : Int32)) (by decide) ?_
      refine s_weak (lv' := [some (rB (xD X).1 o), some (.int a1), none, some (.int a3), some (.int x1), none, none]) ⟨rfl, ⟨rfl, ⟨rfl, ⟨rfl, trivial⟩⟩⟩⟩ ?_
      exact k28 _ hf
    · refine s_iconst C dX11_canSay_23 (v := (1 : Int32)) (by decide) ?_
      refine s_goto (tgt := 28) C dX11_canSay_24 (by decide) ?_
      refine s_weak (lv' := [some (rB (xD X).1 o), some (.int a1), none, some (.int a3), some (.int x1), none, none]) ⟨rfl, ⟨rfl, ⟨rfl, ⟨rfl, trivial⟩⟩⟩⟩ ?_
      exact k28 _ hf
  refine s_icmp_ne (tgt := 9) C dX11_canSay_2 (by decide) hf (fun hf => ?_) (fun hf => ?_)
  · refine s_iconst C dX11_canSay_9 (v := (0 : Int32)) (by decide) ?_
    exact k10 _ hf
  · refine s_iconst C dX11_canSay_5 (v := (1 : Int32)) (by decide) ?_
    refine s_goto (tgt := 10) C dX11_canSay_6 (by decide) ?_
    exact k10 _ hf
/-- HillBoxes.says(IIII)I -/
noncomputable def f_X11_says (o : Option Nat) (a1 : Int32) (a2 : Int32) (a3 : Int32) (a4 : Int32) (h : AH) : Option (Int32 × AH) :=
  jn (fun (h1 : AH) =>
    some ((-2000000000 : Int32), h1)) fun j21 =>
  if a4 < 0 then
    j21 h
  else
    if (1 : Int32) < a4 then
      j21 h
    else
      rO h [11] o <| cl (f_X11_canSay o a1 a2 a3 h) fun v3 h2 =>
      if v3 = 0 then
        j21 h2
      else
        jn (fun (h4 : AH) =>
          fR h4 [11] o 1 fun v5 =>
          fR h4 [11] o 0 fun v6 =>
          fI h4 [3] v6 0 fun v7 =>
          rO h4 [6] v5 <| cl (f_X6_answer v5 a1 v7 h4) fun v9 h8 =>
          jn (fun (x10 : Int32) =>
            some (x10, h8)) fun j121 =>
          if a4 = 0 then
            j121 v9
          else
            fR h8 [11] o 1 fun v11 =>
            fI h8 [6] v11 2 fun v12 =>
            j121 v12) fun j87 =>
        if a1 = (1 : Int32) then
          fR h2 [11] o 1 fun v23 =>
          fR h2 [11] o 0 fun v24 =>
          fI h2 [3] v24 0 fun v25 =>
          fR h2 [11] o 0 fun v26 =>
          rO h2 [3] v26 <| cl (f_X3_finderAt v26 a2 h2) fun v28 h27 =>
          rO h27 [6] v23 <| cl (f_X6_askForKind v23 v25 v28 a3 (-1 : Int32) h27) fun _ h29 =>
          j87 h29
        else
          fR h2 [11] o 1 fun v13 =>
          fR h2 [11] o 0 fun v14 =>
          fI h2 [3] v14 0 fun v15 =>
          fR h2 [11] o 0 fun v16 =>
          rO h2 [3] v16 <| cl (f_X3_finderAt v16 a2 h2) fun v18 h17 =>
          fR h17 [11] o 0 fun v19 =>
          rO h17 [3] v19 <| cl (f_X3_boxAt v19 a3 h17) fun v21 h20 =>
          rO h20 [6] v13 <| cl (f_X6_askForBox v13 v15 v18 v21 (0 : Int32) h20) fun _ h22 =>
          j87 h22
set_option maxRecDepth 100000 in
set_option maxHeartbeats 4000000 in
theorem c_X11_says (l : Launch) (D : DT) (o : Option Nat) (a1 : Int32) (a2 : Int32) (a3 : Int32) (a4 : Int32) (h : AH) (r : Int32 × AH) (hf : f_X11_says o a1 a2 a3 a4 h = some r) : CM l D yX11_says cX11_says 6 (some .int) 5 121 0 0 [.inr (.inr o), .inl a1, .inl a2, .inl a3, .inl a4] h (some (.int r.1)) r.2 := by
  refine CM.of (by decide) (Nat.le_of_ble_eq_true rfl) (fun X hl C hD hX hnm E => ?_)
  subst hl
  subst hD
  have C : CX X RX11 cX11_says 6 := C
  show WW X h 0 0 0 [some (rB (xD X).1 o), some (.int a1), some (.int a2), some (.int a3), some (.int a4), none] []
  unfold f_X11_says at hf
  refine s_iload C dX11_says_0 rfl ?_
  refine s_jn hf (fun j21 e21 hf => ?_)
  have k21 : ∀ (h1 : AH), j21 h1 = some r → WW X h1 0 0 21 [none, none, none, none, none, none] [] := by
    intro h1 hf
    rw [e21] at hf
    refine s_ldc C dX11_says_21 wk_X11_60 ?_
    exact s_ireturn C E dX11_says_23 hf (Nat.le_of_ble_eq_true rfl) (Nat.le_of_ble_eq_true rfl)
  refine s_if_lt (tgt := 21) C dX11_says_2 (by decide) hf (fun hf => ?_) (fun hf => ?_)
  · refine s_weak (lv' := [none, none, none, none, none, none]) trivial ?_
    exact k21 _ hf
  · refine s_iload C dX11_says_5 rfl ?_
    refine s_iconst C dX11_says_7 (v := (1 : Int32)) (by decide) ?_
    refine s_icmp_gt (tgt := 21) C dX11_says_8 (by decide) hf (fun hf => ?_) (fun hf => ?_)
    · refine s_weak (lv' := [none, none, none, none, none, none]) trivial ?_
      exact k21 _ hf
    · refine s_aload_n C dX11_says_11 rfl ?_
      refine s_iload_n C dX11_says_12 rfl ?_
      refine s_iload_n C dX11_says_13 rfl ?_
      refine s_iload_n C dX11_says_14 rfl ?_
      refine s_callV (rvf := fun x => some (.int x)) (st := []) (fr := 1) (lo := 22) (mc := 0) (ms := 0) C [11] wc_X11_canSay wml_X11_206 wim_X11_canSay wsl_11_X11_canSay dX11_says_15 (As := [.inl a1, .inl a2, .inl a3]) rfl hf (fun x h' hF => c_X11_canSay _ _ _ _ _ _ _ (x, h') hF) rfl (Nat.le_of_ble_eq_true rfl) (room_ok hX (Nat.le_of_ble_eq_true rfl) (Nat.le_of_ble_eq_true rfl)) (cell_ok hX (Nat.le_of_ble_eq_true rfl) (Nat.le_of_ble_eq_true rfl)) (fun v3 h2 hf => ?_)
      refine s_if_ne (tgt := 24) C dX11_says_18 (by decide) hf (fun hf => ?_) (fun hf => ?_)
      · refine s_iload_n C dX11_says_24 rfl ?_
        refine s_iconst C dX11_says_25 (v := (1 : Int32)) (by decide) ?_
        refine s_jn hf (fun j87 e87 hf => ?_)
        have k87 : ∀ (h4 : AH), j87 h4 = some r → WW X h4 0 0 87 [some (rB (xD X).1 o), some (.int a1), none, none, some (.int a4), none] [] := by
          intro h4 hf
          rw [e87] at hf
          refine s_aload_n C dX11_says_87 rfl ?_
          refine s_getR C fl_X11_21 dX11_says_88 hf (fun v5 hf => ?_)
          refine s_iload_n C dX11_says_91 rfl ?_
          refine s_aload_n C dX11_says_92 rfl ?_
          refine s_getR C fl_X11_10 dX11_says_93 hf (fun v6 hf => ?_)
          refine s_getI C fl_X11_52 dX11_says_96 hf (fun v7 hf => ?_)
          refine s_callV (rvf := fun x => some (.int x)) (st := []) (fr := 4) (lo := 97) (mc := 0) (ms := 0) C [6] wc_X6_answer wml_X11_218 wim_X6_answer wsl_6_X6_answer dX11_says_99 (As := [.inl a1, .inl v7]) rfl hf (fun x h' hF => c_X6_answer _ _ _ _ _ _ (x, h') hF) rfl (Nat.le_of_ble_eq_true rfl) (room_ok hX (Nat.le_of_ble_eq_true rfl) (Nat.le_of_ble_eq_true rfl)) (cell_ok hX (Nat.le_of_ble_eq_true rfl) (Nat.le_of_ble_eq_true rfl)) (fun v9 h8 hf => ?_)
          refine s_istore C dX11_says_102 (by decide) (nc_i rfl) (lv' := [some (rB (xD X).1 o), some (.int a1), none, none, some (.int a4), some (.int v9)]) rfl ?_
          refine s_iload C dX11_says_104 rfl ?_
          refine s_jn hf (fun j121 e121 hf => ?_)
          have k121 : ∀ (x10 : Int32), j121 x10 = some r → WW X h8 0 0 121 [none, none, none, none, none, none] [.int x10] := by
            intro x10 hf
            rw [e121] at hf
            exact s_ireturn C E dX11_says_121 hf (Nat.le_of_ble_eq_true rfl) (Nat.le_of_ble_eq_true rfl)
          refine s_if_ne (tgt := 114) C dX11_says_106 (by decide) hf (fun hf => ?_) (fun hf => ?_)
          · refine s_aload_n C dX11_says_114 rfl ?_
            refine s_getR C fl_X11_21 dX11_says_115 hf (fun v11 hf => ?_)
            refine s_getI C fl_X11_221 dX11_says_118 hf (fun v12 hf => ?_)
            refine s_weak (lv' := [none, none, none, none, none, none]) trivial ?_
            exact k121 _ hf
          · refine s_iload C dX11_says_109 rfl ?_
            refine s_goto (tgt := 121) C dX11_says_111 (by decide) ?_
            refine s_weak (lv' := [none, none, none, none, none, none]) trivial ?_
            exact k121 _ hf
        refine s_icmp_ne (tgt := 56) C dX11_says_26 (by decide) hf (fun hf => ?_) (fun hf => ?_)
        · refine s_aload_n C dX11_says_56 rfl ?_
          refine s_getR C fl_X11_21 dX11_says_57 hf (fun v13 hf => ?_)
          refine s_aload_n C dX11_says_60 rfl ?_
          refine s_getR C fl_X11_10 dX11_says_61 hf (fun v14 hf => ?_)
          refine s_getI C fl_X11_52 dX11_says_64 hf (fun v15 hf => ?_)
          refine s_aload_n C dX11_says_67 rfl ?_
          refine s_getR C fl_X11_10 dX11_says_68 hf (fun v16 hf => ?_)
          refine s_iload_n C dX11_says_71 rfl ?_
          refine s_callV (rvf := fun x => some (rB (xD X).1 x)) (st := [.int v15, rB (xD X).1 v13]) (fr := 0) (lo := 0) (mc := 0) (ms := 0) C [3] wc_X3_finderAt wml_X11_90 wim_X3_finderAt wsl_3_X3_finderAt dX11_says_72 (As := [.inl a2]) rfl hf (fun x h' hF => c_X3_finderAt _ _ _ _ _ (x, h') hF) rfl (Nat.le_of_ble_eq_true rfl) (room_ok hX (Nat.le_of_ble_eq_true rfl) (Nat.le_of_ble_eq_true rfl)) (cell_ok hX (Nat.le_of_ble_eq_true rfl) (Nat.le_of_ble_eq_true rfl)) (fun v18 h17 hf => ?_)
          refine s_aload_n C dX11_says_75 rfl ?_
          refine s_getR C fl_X11_10 dX11_says_76 hf (fun v19 hf => ?_)
          refine s_iload_n C dX11_says_79 rfl ?_
          refine s_callV (rvf := fun x => some (rB (xD X).1 x)) (st := [rB (xD X).1 v18, .int v15, rB (xD X).1 v13]) (fr := 0) (lo := 0) (mc := 0) (ms := 0) C [3] wc_X3_boxAt wml_X11_130 wim_X3_boxAt wsl_3_X3_boxAt dX11_says_80 (As := [.inl a3]) rfl hf (fun x h' hF => c_X3_boxAt _ _ _ _ _ (x, h') hF) rfl (Nat.le_of_ble_eq_true rfl) (room_ok hX (Nat.le_of_ble_eq_true rfl) (Nat.le_of_ble_eq_true rfl)) (cell_ok hX (Nat.le_of_ble_eq_true rfl) (Nat.le_of_ble_eq_true rfl)) (fun v21 h20 hf => ?_)
          refine s_iconst C dX11_says_83 (v := (0 : Int32)) (by decide) ?_
          refine s_callV (rvf := fun _ => none) (st := []) (fr := 0) (lo := 0) (mc := 0) (ms := 0) C [6] wc_X6_askForBox wml_X11_214 wim_X6_askForBox wsl_6_X6_askForBox dX11_says_84 (As := [.inl v15, .inr (.inr v18), .inr (.inr v21), .inl (0 : Int32)]) rfl hf (fun x h' hF => c_X6_askForBox _ _ _ _ _ _ _ _ (x, h') hF) rfl (Nat.le_of_ble_eq_true rfl) (room_ok hX (Nat.le_of_ble_eq_true rfl) (Nat.le_of_ble_eq_true rfl)) (cell_ok hX (Nat.le_of_ble_eq_true rfl) (Nat.le_of_ble_eq_true rfl)) (fun _ h22 hf => ?_)
          refine s_weak (lv' := [some (rB (xD X).1 o), some (.int a1), none, none, some (.int a4), none]) ⟨rfl, ⟨rfl, ⟨rfl, trivial⟩⟩⟩ ?_
          exact k87 _ hf
        · refine s_aload_n C dX11_says_29 rfl ?_
          refine s_getR C fl_X11_21 dX11_says_30 hf (fun v23 hf => ?_)
          refine s_aload_n C dX11_says_33 rfl ?_
          refine s_getR C fl_X11_10 dX11_says_34 hf (fun v24 hf => ?_)
          refine s_getI C fl_X11_52 dX11_says_37 hf (fun v25 hf => ?_)
          refine s_aload_n C dX11_says_40 rfl ?_
          refine s_getR C fl_X11_10 dX11_says_41 hf (fun v26 hf => ?_)
          refine s_iload_n C dX11_says_44 rfl ?_
          refine s_callV (rvf := fun x => some (rB (xD X).1 x)) (st := [.int v25, rB (xD X).1 v23]) (fr := 0) (lo := 0) (mc := 0) (ms := 0) C [3] wc_X3_finderAt wml_X11_90 wim_X3_finderAt wsl_3_X3_finderAt dX11_says_45 (As := [.inl a2]) rfl hf (fun x h' hF => c_X3_finderAt _ _ _ _ _ (x, h') hF) rfl (Nat.le_of_ble_eq_true rfl) (room_ok hX (Nat.le_of_ble_eq_true rfl) (Nat.le_of_ble_eq_true rfl)) (cell_ok hX (Nat.le_of_ble_eq_true rfl) (Nat.le_of_ble_eq_true rfl)) (fun v28 h27 hf => ?_)
          refine s_iload_n C dX11_says_48 rfl ?_
          refine s_iconst C dX11_says_49 (v := (-1 : Int32)) (by decide) ?_
          refine s_callV (rvf := fun _ => none) (st := []) (fr := 0) (lo := 0) (mc := 0) (ms := 0) C [6] wc_X6_askForKind wml_X11_210 wim_X6_askForKind wsl_6_X6_askForKind dX11_says_50 (As := [.inl v25, .inr (.inr v28), .inl a3, .inl (-1 : Int32)]) rfl hf (fun x h' hF => c_X6_askForKind _ _ _ _ _ _ _ _ (x, h') hF) rfl (Nat.le_of_ble_eq_true rfl) (room_ok hX (Nat.le_of_ble_eq_true rfl) (Nat.le_of_ble_eq_true rfl)) (cell_ok hX (Nat.le_of_ble_eq_true rfl) (Nat.le_of_ble_eq_true rfl)) (fun _ h29 hf => ?_)
          refine s_goto (tgt := 87) C dX11_says_53 (by decide) ?_
          refine s_weak (lv' := [some (rB (xD X).1 o), some (.int a1), none, none, some (.int a4), none]) ⟨rfl, ⟨rfl, ⟨rfl, trivial⟩⟩⟩ ?_
          exact k87 _ hf
      · refine s_weak (lv' := [none, none, none, none, none, none]) trivial ?_
        exact k21 _ hf
/-- HillBoxes.shift(IIIII)I -/
noncomputable def f_X11_shift (o : Option Nat) (a1 : Int32) (a2 : Int32) (a3 : Int32) (a4 : Int32) (a5 : Int32) (h : AH) : Option (Int32 × AH) :=
  rO h [11] o <| cl (f_X11_shelfAt o a1 h) fun v2 h1 =>
  rO h1 [11] o <| cl (f_X11_shelfAt o a3 h1) fun v4 h3 =>
  jn (
    some ((-1 : Int32), h3)) fun j24 =>
  if v2 = none then
    j24
  else
    if v4 = none then
      j24
    else
      rO h3 [7] v2 <| cl (f_X7_isEmpty v2 h3) fun v6 h5 =>
      jn (fun (h7 : AH) =>
        some ((-11 : Int32), h7)) fun j42 =>
      if v6 = 0 then
        rO h5 [7] v4 <| cl (f_X7_isEmpty v4 h5) fun v9 h8 =>
        if v9 = 0 then
          fI h8 [7] v2 1 fun v10 =>
          jn (
            some ((-12 : Int32), h8)) fun j74 =>
          if v10 = 0 then
            j74
          else
            fI h8 [7] v4 1 fun v11 =>
            if v11 = 0 then
              j74
            else
              fI h8 [7] v2 2 fun v12 =>
              fI h8 [7] v4 2 fun v13 =>
              if v12 = v13 then
                rO h8 [7] v2 <| cl (f_X7_hasPlaces v2 a2.toInt64 a5 h8) fun v15 h14 =>
                jn (fun (h16 : AH) =>
                  some ((-13 : Int32), h16)) fun j102 =>
                if v15 = 0 then
                  j102 h14
                else
                  rO h14 [7] v4 <| cl (f_X7_hasPlaces v4 a4.toInt64 a5 h14) fun v18 h17 =>
                  if v18 = 0 then
                    j102 h17
                  else
                    fR h17 [7] v2 4 fun v19 =>
                    fR h17 [7] v4 4 fun v20 =>
                    cpL h17 v19 a2 v20 a4 a5 fun h21 =>
                    some (a5, h21)
              else
                j74
        else
          j42 h8
      else
        j42 h5
set_option maxRecDepth 100000 in
set_option maxHeartbeats 4000000 in
theorem c_X11_shift (l : Launch) (D : DT) (o : Option Nat) (a1 : Int32) (a2 : Int32) (a3 : Int32) (a4 : Int32) (a5 : Int32) (h : AH) (r : Int32 × AH) (hf : f_X11_shift o a1 a2 a3 a4 a5 h = some r) : CM l D yX11_shift cX11_shift 8 (some .int) 1 26 0 0 [.inr (.inr o), .inl a1, .inl a2, .inl a3, .inl a4, .inl a5] h (some (.int r.1)) r.2 := by
  refine CM.of (by decide) (Nat.le_of_ble_eq_true rfl) (fun X hl C hD hX hnm E => ?_)
  subst hl
  subst hD
  have C : CX X RX11 cX11_shift 8 := C
  show WW X h 0 0 0 [some (rB (xD X).1 o), some (.int a1), some (.int a2), some (.int a3), some (.int a4), some (.int a5), none, none] []
  unfold f_X11_shift at hf
  refine s_aload_n C dX11_shift_0 rfl ?_
  refine s_iload_n C dX11_shift_1 rfl ?_
  refine s_callV (rvf := fun x => some (rB (xD X).1 x)) (st := []) (fr := 0) (lo := 0) (mc := 0) (ms := 0) C [11] wc_X11_shelfAt wml_X11_238 wim_X11_shelfAt wsl_11_X11_shelfAt dX11_shift_2 (As := [.inl a1]) rfl hf (fun x h' hF => c_X11_shelfAt _ _ _ _ _ (x, h') hF) rfl (Nat.le_of_ble_eq_true rfl) (room_ok hX (Nat.le_of_ble_eq_true rfl) (Nat.le_of_ble_eq_true rfl)) (cell_ok hX (Nat.le_of_ble_eq_true rfl) (Nat.le_of_ble_eq_true rfl)) (fun v2 h1 hf => ?_)
  refine s_astore C dX11_shift_5 (by decide) (nc_i rfl) (lv' := [some (rB (xD X).1 o), some (.int a1), some (.int a2), some (.int a3), some (.int a4), some (.int a5), some (rB (xD X).1 v2), none]) rfl ?_
  refine s_aload_n C dX11_shift_7 rfl ?_
  refine s_iload_n C dX11_shift_8 rfl ?_
  refine s_callV (rvf := fun x => some (rB (xD X).1 x)) (st := []) (fr := 0) (lo := 0) (mc := 0) (ms := 0) C [11] wc_X11_shelfAt wml_X11_238 wim_X11_shelfAt wsl_11_X11_shelfAt dX11_shift_9 (As := [.inl a3]) rfl hf (fun x h' hF => c_X11_shelfAt _ _ _ _ _ (x, h') hF) rfl (Nat.le_of_ble_eq_true rfl) (room_ok hX (Nat.le_of_ble_eq_true rfl) (Nat.le_of_ble_eq_true rfl)) (cell_ok hX (Nat.le_of_ble_eq_true rfl) (Nat.le_of_ble_eq_true rfl)) (fun v4 h3 hf => ?_)
  refine s_astore C dX11_shift_12 (by decide) (nc_r rfl) (lv' := [some (rB (xD X).1 o), some (.int a1), some (.int a2), some (.int a3), some (.int a4), some (.int a5), some (rB (xD X).1 v2), some (rB (xD X).1 v4)]) rfl ?_
  refine s_aload C dX11_shift_14 rfl ?_
  refine s_jn hf (fun j24 e24 hf => ?_)
  have k24 : j24  = some r → WW X h3 0 0 24 [none, none, none, none, none, none, none, none] [] := by
    intro  hf
    rw [e24] at hf
    refine s_iconst C dX11_shift_24 (v := (-1 : Int32)) (by decide) ?_
    exact s_ireturn C E dX11_shift_25 hf (Nat.le_of_ble_eq_true rfl) (Nat.le_of_ble_eq_true rfl)
  refine s_ifnull (tgt := 24) C dX11_shift_16 (by decide) hf (fun hf => ?_) (fun hf => ?_)
  · refine s_weak (lv' := [none, none, none, none, none, none, none, none]) trivial ?_
    exact k24 hf
  · refine s_aload C dX11_shift_19 rfl ?_
    refine s_ifnonnull (tgt := 26) C dX11_shift_21 (by decide) hf (fun hf => ?_) (fun hf => ?_)
    · refine s_aload C dX11_shift_26 rfl ?_
      refine s_callV (rvf := fun x => some (.int x)) (st := []) (fr := 0) (lo := 0) (mc := 0) (ms := 0) C [7] wc_X7_isEmpty wml_X11_244 wim_X7_isEmpty wsl_7_X7_isEmpty dX11_shift_28 (As := []) rfl hf (fun x h' hF => c_X7_isEmpty _ _ _ _ (x, h') hF) rfl (Nat.le_of_ble_eq_true rfl) (room_ok hX (Nat.le_of_ble_eq_true rfl) (Nat.le_of_ble_eq_true rfl)) (cell_ok hX (Nat.le_of_ble_eq_true rfl) (Nat.le_of_ble_eq_true rfl)) (fun v6 h5 hf => ?_)
      refine s_jn hf (fun j42 e42 hf => ?_)
      have k42 : ∀ (h7 : AH), j42 h7 = some r → WW X h7 0 0 42 [none, none, none, none, none, none, none, none] [] := by
        intro h7 hf
        rw [e42] at hf
        refine s_bipush C dX11_shift_42 (v := (-11 : Int32)) (by decide) ?_
        exact s_ireturn C E dX11_shift_44 hf (Nat.le_of_ble_eq_true rfl) (Nat.le_of_ble_eq_true rfl)
      refine s_if_ne (tgt := 42) C dX11_shift_31 (by decide) hf (fun hf => ?_) (fun hf => ?_)
      · refine s_weak (lv' := [none, none, none, none, none, none, none, none]) trivial ?_
        exact k42 _ hf
      · refine s_aload C dX11_shift_34 rfl ?_
        refine s_callV (rvf := fun x => some (.int x)) (st := []) (fr := 0) (lo := 0) (mc := 0) (ms := 0) C [7] wc_X7_isEmpty wml_X11_244 wim_X7_isEmpty wsl_7_X7_isEmpty dX11_shift_36 (As := []) rfl hf (fun x h' hF => c_X7_isEmpty _ _ _ _ (x, h') hF) rfl (Nat.le_of_ble_eq_true rfl) (room_ok hX (Nat.le_of_ble_eq_true rfl) (Nat.le_of_ble_eq_true rfl)) (cell_ok hX (Nat.le_of_ble_eq_true rfl) (Nat.le_of_ble_eq_true rfl)) (fun v9 h8 hf => ?_)
        refine s_if_eq (tgt := 45) C dX11_shift_39 (by decide) hf (fun hf => ?_) (fun hf => ?_)
        · refine s_aload C dX11_shift_45 rfl ?_
          refine s_getI C fl_X11_452 dX11_shift_47 hf (fun v10 hf => ?_)
          refine s_jn hf (fun j74 e74 hf => ?_)
          have k74 : j74  = some r → WW X h8 0 0 74 [none, none, none, none, none, none, none, none] [] := by
            intro  hf
            rw [e74] at hf
            refine s_bipush C dX11_shift_74 (v := (-12 : Int32)) (by decide) ?_
            exact s_ireturn C E dX11_shift_76 hf (Nat.le_of_ble_eq_true rfl) (Nat.le_of_ble_eq_true rfl)
          refine s_if_eq (tgt := 74) C dX11_shift_50 (by decide) hf (fun hf => ?_) (fun hf => ?_)
          · refine s_weak (lv' := [none, none, none, none, none, none, none, none]) trivial ?_
            exact k74 hf
          · refine s_aload C dX11_shift_53 rfl ?_
            refine s_getI C fl_X11_452 dX11_shift_55 hf (fun v11 hf => ?_)
            refine s_if_eq (tgt := 74) C dX11_shift_58 (by decide) hf (fun hf => ?_) (fun hf => ?_)
            · refine s_weak (lv' := [none, none, none, none, none, none, none, none]) trivial ?_
              exact k74 hf
            · refine s_aload C dX11_shift_61 rfl ?_
              refine s_getI C fl_X11_455 dX11_shift_63 hf (fun v12 hf => ?_)
              refine s_aload C dX11_shift_66 rfl ?_
              refine s_getI C fl_X11_455 dX11_shift_68 hf (fun v13 hf => ?_)
              refine s_icmp_eq (tgt := 77) C dX11_shift_71 (by decide) hf (fun hf => ?_) (fun hf => ?_)
              · refine s_aload C dX11_shift_77 rfl ?_
                refine s_iload_n C dX11_shift_79 rfl ?_
                refine s_i2l C dX11_shift_80 ?_
                refine s_iload C dX11_shift_81 rfl ?_
                refine s_callV (rvf := fun x => some (.int x)) (st := []) (fr := 0) (lo := 0) (mc := 0) (ms := 0) C [7] wc_X7_hasPlaces wml_X11_458 wim_X7_hasPlaces wsl_7_X7_hasPlaces dX11_shift_83 (As := [.inr (.inl a2.toInt64), .inl a5]) rfl hf (fun x h' hF => c_X7_hasPlaces _ _ _ _ _ _ (x, h') hF) rfl (Nat.le_of_ble_eq_true rfl) (room_ok hX (Nat.le_of_ble_eq_true rfl) (Nat.le_of_ble_eq_true rfl)) (cell_ok hX (Nat.le_of_ble_eq_true rfl) (Nat.le_of_ble_eq_true rfl)) (fun v15 h14 hf => ?_)
                refine s_jn hf (fun j102 e102 hf => ?_)
                have k102 : ∀ (h16 : AH), j102 h16 = some r → WW X h16 0 0 102 [none, none, none, none, none, none, none, none] [] := by
                  intro h16 hf
                  rw [e102] at hf
                  refine s_bipush C dX11_shift_102 (v := (-13 : Int32)) (by decide) ?_
                  exact s_ireturn C E dX11_shift_104 hf (Nat.le_of_ble_eq_true rfl) (Nat.le_of_ble_eq_true rfl)
                refine s_if_eq (tgt := 102) C dX11_shift_86 (by decide) hf (fun hf => ?_) (fun hf => ?_)
                · refine s_weak (lv' := [none, none, none, none, none, none, none, none]) trivial ?_
                  exact k102 _ hf
                · refine s_aload C dX11_shift_89 rfl ?_
                  refine s_iload C dX11_shift_91 rfl ?_
                  refine s_i2l C dX11_shift_93 ?_
                  refine s_iload C dX11_shift_94 rfl ?_
                  refine s_callV (rvf := fun x => some (.int x)) (st := []) (fr := 0) (lo := 0) (mc := 0) (ms := 0) C [7] wc_X7_hasPlaces wml_X11_458 wim_X7_hasPlaces wsl_7_X7_hasPlaces dX11_shift_96 (As := [.inr (.inl a4.toInt64), .inl a5]) rfl hf (fun x h' hF => c_X7_hasPlaces _ _ _ _ _ _ (x, h') hF) rfl (Nat.le_of_ble_eq_true rfl) (room_ok hX (Nat.le_of_ble_eq_true rfl) (Nat.le_of_ble_eq_true rfl)) (cell_ok hX (Nat.le_of_ble_eq_true rfl) (Nat.le_of_ble_eq_true rfl)) (fun v18 h17 hf => ?_)
                  refine s_if_ne (tgt := 105) C dX11_shift_99 (by decide) hf (fun hf => ?_) (fun hf => ?_)
                  · refine s_aload C dX11_shift_105 rfl ?_
                    refine s_getR C fl_X11_462 dX11_shift_107 hf (fun v19 hf => ?_)
                    refine s_iload_n C dX11_shift_110 rfl ?_
                    refine s_aload C dX11_shift_111 rfl ?_
                    refine s_getR C fl_X11_462 dX11_shift_113 hf (fun v20 hf => ?_)
                    refine s_iload C dX11_shift_116 rfl ?_
                    refine s_iload C dX11_shift_118 rfl ?_
                    refine s_copyL C wml_X11_466 wnat wst_cpy wini_sys dX11_shift_120 hf (Nat.le_of_ble_eq_true rfl) (room_n hX (Nat.le_of_ble_eq_true rfl) (Nat.le_of_ble_eq_true rfl)) (fun h21 hf => ?_)
                    refine s_iload C dX11_shift_123 rfl ?_
                    exact s_ireturn C E dX11_shift_125 hf (Nat.le_of_ble_eq_true rfl) (Nat.le_of_ble_eq_true rfl)
                  · refine s_weak (lv' := [none, none, none, none, none, none, none, none]) trivial ?_
                    exact k102 _ hf
              · refine s_weak (lv' := [none, none, none, none, none, none, none, none]) trivial ?_
                exact k74 hf
        · refine s_weak (lv' := [none, none, none, none, none, none, none, none]) trivial ?_
          exact k42 _ hf
    · refine s_weak (lv' := [none, none, none, none, none, none, none, none]) trivial ?_
      exact k24 hf
/-- HillBoxes$Riddle.findSolution(I)Z -/
noncomputable def f_X5_findSolution (o : Option Nat) (a1 : Int32) (h : AH) : Option (Int32 × AH) :=
  jn (
    rz (0 : Int32) h) fun j10 =>
  if a1 < 0 then
    j10
  else
    if a1 = (2147483647 : Int32) then
      j10
    else
      rO h [5] o <| cl (f_X5_lookFor o (a1 + (1 : Int32)) h) fun _ h1 =>
      fI h1 [5] o 13 fun v2 =>
      fI h1 [5] o 14 fun v3 =>
      jn (fun (x4 : Int32) =>
        rz x4 h1) fun j35 =>
      if v2 = v3 then
        j35 (1 : Int32)
      else
        j35 (0 : Int32)
set_option maxRecDepth 100000 in
set_option maxHeartbeats 4000000 in
theorem c_X5_findSolution (l : Launch) (D : DT) (o : Option Nat) (a1 : Int32) (h : AH) (r : Int32 × AH) (hf : f_X5_findSolution o a1 h = some r) : CM l D yX5_findSolution cX5_findSolution 2 (some .boolean) 106 6131 0 0 [.inr (.inr o), .inl a1] h (some (.int r.1)) r.2 := by
  refine CM.of (by decide) (Nat.le_of_ble_eq_true rfl) (fun X hl C hD hX hnm E => ?_)
  subst hl
  subst hD
  have C : CX X RX5 cX5_findSolution 2 := C
  show WW X h 0 0 0 [some (rB (xD X).1 o), some (.int a1)] []
  unfold f_X5_findSolution at hf
  refine s_iload_n C dX5_findSolution_0 rfl ?_
  refine s_jn hf (fun j10 e10 hf => ?_)
  have k10 : j10  = some r → WW X h 0 0 10 [none, none] [] := by
    intro  hf
    rw [e10] at hf
    refine s_iconst C dX5_findSolution_10 (v := (0 : Int32)) (by decide) ?_
    exact s_zreturn C E dX5_findSolution_11 hf (Nat.le_of_ble_eq_true rfl) (Nat.le_of_ble_eq_true rfl)
  refine s_if_lt (tgt := 10) C dX5_findSolution_1 (by decide) hf (fun hf => ?_) (fun hf => ?_)
  · refine s_weak (lv' := [none, none]) trivial ?_
    exact k10 hf
  · refine s_iload_n C dX5_findSolution_4 rfl ?_
    refine s_ldc C dX5_findSolution_5 wk_X5_85 ?_
    refine s_icmp_ne (tgt := 12) C dX5_findSolution_7 (by decide) hf (fun hf => ?_) (fun hf => ?_)
    · refine s_aload_n C dX5_findSolution_12 rfl ?_
      refine s_iload_n C dX5_findSolution_13 rfl ?_
      refine s_iconst C dX5_findSolution_14 (v := (1 : Int32)) (by decide) ?_
      refine s_iadd C dX5_findSolution_15 ?_
      refine s_callV (rvf := fun _ => none) (st := []) (fr := 105) (lo := 6110) (mc := 0) (ms := 0) C [5] wc_X5_lookFor wml_X5_86 wim_X5_lookFor wsl_5_X5_lookFor dX5_findSolution_16 (As := [.inl (a1 + (1 : Int32))]) rfl hf (fun x h' hF => c_X5_lookFor _ _ _ _ _ (x, h') hF) rfl (Nat.le_of_ble_eq_true rfl) (room_ok hX (Nat.le_of_ble_eq_true rfl) (Nat.le_of_ble_eq_true rfl)) (cell_ok hX (Nat.le_of_ble_eq_true rfl) (Nat.le_of_ble_eq_true rfl)) (fun _ h1 hf => ?_)
      refine s_aload_n C dX5_findSolution_19 rfl ?_
      refine s_getI C fl_X5_90 dX5_findSolution_20 hf (fun v2 hf => ?_)
      refine s_aload_n C dX5_findSolution_23 rfl ?_
      refine s_getI C fl_X5_93 dX5_findSolution_24 hf (fun v3 hf => ?_)
      refine s_jn hf (fun j35 e35 hf => ?_)
      have k35 : ∀ (x4 : Int32), j35 x4 = some r → WW X h1 0 0 35 [none, none] [.int x4] := by
        intro x4 hf
        rw [e35] at hf
        exact s_zreturn C E dX5_findSolution_35 hf (Nat.le_of_ble_eq_true rfl) (Nat.le_of_ble_eq_true rfl)
      refine s_icmp_ne (tgt := 34) C dX5_findSolution_27 (by decide) hf (fun hf => ?_) (fun hf => ?_)
      · refine s_iconst C dX5_findSolution_34 (v := (0 : Int32)) (by decide) ?_
        refine s_weak (lv' := [none, none]) trivial ?_
        exact k35 _ hf
      · refine s_iconst C dX5_findSolution_30 (v := (1 : Int32)) (by decide) ?_
        refine s_goto (tgt := 35) C dX5_findSolution_31 (by decide) ?_
        refine s_weak (lv' := [none, none]) trivial ?_
        exact k35 _ hf
    · refine s_weak (lv' := [none, none]) trivial ?_
      exact k10 hf
/-- HillBoxes.solve(II)I -/
noncomputable def f_X11_solve (o : Option Nat) (a1 : Int32) (a2 : Int32) (h : AH) : Option (Int32 × AH) :=
  rO h [11] o <| cl (f_X11_riddleOf o a1 h) fun v2 h1 =>
  jn (
    some ((-1 : Int32), h1)) fun j15 =>
  if v2 = none then
    j15
  else
    if (-1 : Int32) ≤ a2 then
      rO h1 [5] v2 <| cl (f_X5_tellsCell v2 h1) fun v4 h3 =>
      if v4 = 0 then
        some ((-2 : Int32), h3)
      else
        if a2 = (-1 : Int32) then
          rO h3 [5] v2 <| cl (f_X5_countSolutions v2 h3) fun v10 h9 =>
          some (v10, h9)
        else
          rO h3 [5] v2 <| cl (f_X5_findSolution v2 a2 h3) fun v6 h5 =>
          jn (fun (x7 : Int32) =>
            some (x7, h5)) fun j53 =>
          if v6 = 0 then
            j53 (-1 : Int32)
          else
            fI h5 [5] v2 0 fun v8 =>
            j53 v8
    else
      j15
set_option maxRecDepth 100000 in
set_option maxHeartbeats 4000000 in
theorem c_X11_solve (l : Launch) (D : DT) (o : Option Nat) (a1 : Int32) (a2 : Int32) (h : AH) (r : Int32 × AH) (hf : f_X11_solve o a1 a2 h = some r) : CM l D yX11_solve cX11_solve 4 (some .int) 107 6152 0 0 [.inr (.inr o), .inl a1, .inl a2] h (some (.int r.1)) r.2 := by
  refine CM.of (by decide) (Nat.le_of_ble_eq_true rfl) (fun X hl C hD hX hnm E => ?_)
  subst hl
  subst hD
  have C : CX X RX11 cX11_solve 4 := C
  show WW X h 0 0 0 [some (rB (xD X).1 o), some (.int a1), some (.int a2), none] []
  unfold f_X11_solve at hf
  refine s_aload_n C dX11_solve_0 rfl ?_
  refine s_iload_n C dX11_solve_1 rfl ?_
  refine s_callV (rvf := fun x => some (rB (xD X).1 x)) (st := []) (fr := 1) (lo := 22) (mc := 0) (ms := 0) C [11] wc_X11_riddleOf wml_X11_234 wim_X11_riddleOf wsl_11_X11_riddleOf dX11_solve_2 (As := [.inl a1]) rfl hf (fun x h' hF => c_X11_riddleOf _ _ _ _ _ (x, h') hF) rfl (Nat.le_of_ble_eq_true rfl) (room_ok hX (Nat.le_of_ble_eq_true rfl) (Nat.le_of_ble_eq_true rfl)) (cell_ok hX (Nat.le_of_ble_eq_true rfl) (Nat.le_of_ble_eq_true rfl)) (fun v2 h1 hf => ?_)
  refine s_astore_n C dX11_solve_5 (by decide) (nc_i rfl) (lv' := [some (rB (xD X).1 o), some (.int a1), some (.int a2), some (rB (xD X).1 v2)]) rfl ?_
  refine s_aload_n C dX11_solve_6 rfl ?_
  refine s_jn hf (fun j15 e15 hf => ?_)
  have k15 : j15  = some r → WW X h1 0 0 15 [none, none, none, none] [] := by
    intro  hf
    rw [e15] at hf
    refine s_iconst C dX11_solve_15 (v := (-1 : Int32)) (by decide) ?_
    exact s_ireturn C E dX11_solve_16 hf (Nat.le_of_ble_eq_true rfl) (Nat.le_of_ble_eq_true rfl)
  refine s_ifnull (tgt := 15) C dX11_solve_7 (by decide) hf (fun hf => ?_) (fun hf => ?_)
  · refine s_weak (lv' := [none, none, none, none]) trivial ?_
    exact k15 hf
  · refine s_iload_n C dX11_solve_10 rfl ?_
    refine s_iconst C dX11_solve_11 (v := (-1 : Int32)) (by decide) ?_
    refine s_icmp_ge (tgt := 17) C dX11_solve_12 (by decide) hf (fun hf => ?_) (fun hf => ?_)
    · refine s_aload_n C dX11_solve_17 rfl ?_
      refine s_callV (rvf := fun x => some (.int x)) (st := []) (fr := 0) (lo := 0) (mc := 0) (ms := 0) C [5] wc_X5_tellsCell wml_X11_254 wim_X5_tellsCell wsl_5_X5_tellsCell dX11_solve_18 (As := []) rfl hf (fun x h' hF => c_X5_tellsCell _ _ _ _ (x, h') hF) rfl (Nat.le_of_ble_eq_true rfl) (room_ok hX (Nat.le_of_ble_eq_true rfl) (Nat.le_of_ble_eq_true rfl)) (cell_ok hX (Nat.le_of_ble_eq_true rfl) (Nat.le_of_ble_eq_true rfl)) (fun v4 h3 hf => ?_)
      refine s_if_ne (tgt := 27) C dX11_solve_21 (by decide) hf (fun hf => ?_) (fun hf => ?_)
      · refine s_iload_n C dX11_solve_27 rfl ?_
        refine s_iconst C dX11_solve_28 (v := (-1 : Int32)) (by decide) ?_
        refine s_icmp_ne (tgt := 37) C dX11_solve_29 (by decide) hf (fun hf => ?_) (fun hf => ?_)
        · refine s_aload_n C dX11_solve_37 rfl ?_
          refine s_iload_n C dX11_solve_38 rfl ?_
          refine s_callV (rvf := fun x => some (.int x)) (st := []) (fr := 106) (lo := 6131) (mc := 0) (ms := 0) C [5] wc_X5_findSolution wml_X11_261 wim_X5_findSolution wsl_5_X5_findSolution dX11_solve_39 (As := [.inl a2]) rfl hf (fun x h' hF => c_X5_findSolution _ _ _ _ _ (x, h') hF) rfl (Nat.le_of_ble_eq_true rfl) (room_ok hX (Nat.le_of_ble_eq_true rfl) (Nat.le_of_ble_eq_true rfl)) (cell_ok hX (Nat.le_of_ble_eq_true rfl) (Nat.le_of_ble_eq_true rfl)) (fun v6 h5 hf => ?_)
          refine s_jn hf (fun j53 e53 hf => ?_)
          have k53 : ∀ (x7 : Int32), j53 x7 = some r → WW X h5 0 0 53 [none, none, none, none] [.int x7] := by
            intro x7 hf
            rw [e53] at hf
            exact s_ireturn C E dX11_solve_53 hf (Nat.le_of_ble_eq_true rfl) (Nat.le_of_ble_eq_true rfl)
          refine s_if_eq (tgt := 52) C dX11_solve_42 (by decide) hf (fun hf => ?_) (fun hf => ?_)
          · refine s_iconst C dX11_solve_52 (v := (-1 : Int32)) (by decide) ?_
            refine s_weak (lv' := [none, none, none, none]) trivial ?_
            exact k53 _ hf
          · refine s_aload_n C dX11_solve_45 rfl ?_
            refine s_getI C fl_X11_264 dX11_solve_46 hf (fun v8 hf => ?_)
            refine s_goto (tgt := 53) C dX11_solve_49 (by decide) ?_
            refine s_weak (lv' := [none, none, none, none]) trivial ?_
            exact k53 _ hf
        · refine s_aload_n C dX11_solve_32 rfl ?_
          refine s_callV (rvf := fun x => some (.int x)) (st := []) (fr := 106) (lo := 6131) (mc := 0) (ms := 0) C [5] wc_X5_countSolutions wml_X11_257 wim_X5_countSolutions wsl_5_X5_countSolutions dX11_solve_33 (As := []) rfl hf (fun x h' hF => c_X5_countSolutions _ _ _ _ (x, h') hF) rfl (Nat.le_of_ble_eq_true rfl) (room_ok hX (Nat.le_of_ble_eq_true rfl) (Nat.le_of_ble_eq_true rfl)) (cell_ok hX (Nat.le_of_ble_eq_true rfl) (Nat.le_of_ble_eq_true rfl)) (fun v10 h9 hf => ?_)
          exact s_ireturn C E dX11_solve_36 hf (Nat.le_of_ble_eq_true rfl) (Nat.le_of_ble_eq_true rfl)
      · refine s_bipush C dX11_solve_24 (v := (-2 : Int32)) (by decide) ?_
        exact s_ireturn C E dX11_solve_26 hf (Nat.le_of_ble_eq_true rfl) (Nat.le_of_ble_eq_true rfl)
    · refine s_weak (lv' := [none, none, none, none]) trivial ?_
      exact k15 hf
/-- HillBoxes.solved(II)I -/
noncomputable def f_X11_solved (o : Option Nat) (a1 : Int32) (a2 : Int32) (h : AH) : Option (Int32 × AH) :=
  rO h [11] o <| cl (f_X11_riddleOf o a1 h) fun v2 h1 =>
  jn (
    some ((-1 : Int32), h1)) fun j14 =>
  if v2 = none then
    j14
  else
    if 0 ≤ a2 then
      rO h1 [5] v2 <| cl (f_X5_tellsCell v2 h1) fun v4 h3 =>
      if v4 = 0 then
        some ((-2 : Int32), h3)
      else
        rO h3 [5] v2 <| cl (f_X5_findSolution v2 a2 h3) fun v6 h5 =>
        jn (fun (x7 : Int32) =>
          some (x7, h5)) fun j42 =>
        if v6 = 0 then
          j42 (-1 : Int32)
        else
          fI h5 [5] v2 1 fun v8 =>
          j42 v8
    else
      j14
set_option maxRecDepth 100000 in
set_option maxHeartbeats 4000000 in
theorem c_X11_solved (l : Launch) (D : DT) (o : Option Nat) (a1 : Int32) (a2 : Int32) (h : AH) (r : Int32 × AH) (hf : f_X11_solved o a1 a2 h = some r) : CM l D yX11_solved cX11_solved 4 (some .int) 107 6152 0 0 [.inr (.inr o), .inl a1, .inl a2] h (some (.int r.1)) r.2 := by
  refine CM.of (by decide) (Nat.le_of_ble_eq_true rfl) (fun X hl C hD hX hnm E => ?_)
  subst hl
  subst hD
  have C : CX X RX11 cX11_solved 4 := C
  show WW X h 0 0 0 [some (rB (xD X).1 o), some (.int a1), some (.int a2), none] []
  unfold f_X11_solved at hf
  refine s_aload_n C dX11_solved_0 rfl ?_
  refine s_iload_n C dX11_solved_1 rfl ?_
  refine s_callV (rvf := fun x => some (rB (xD X).1 x)) (st := []) (fr := 1) (lo := 22) (mc := 0) (ms := 0) C [11] wc_X11_riddleOf wml_X11_234 wim_X11_riddleOf wsl_11_X11_riddleOf dX11_solved_2 (As := [.inl a1]) rfl hf (fun x h' hF => c_X11_riddleOf _ _ _ _ _ (x, h') hF) rfl (Nat.le_of_ble_eq_true rfl) (room_ok hX (Nat.le_of_ble_eq_true rfl) (Nat.le_of_ble_eq_true rfl)) (cell_ok hX (Nat.le_of_ble_eq_true rfl) (Nat.le_of_ble_eq_true rfl)) (fun v2 h1 hf => ?_)
  refine s_astore_n C dX11_solved_5 (by decide) (nc_i rfl) (lv' := [some (rB (xD X).1 o), some (.int a1), some (.int a2), some (rB (xD X).1 v2)]) rfl ?_
  refine s_aload_n C dX11_solved_6 rfl ?_
  refine s_jn hf (fun j14 e14 hf => ?_)
  have k14 : j14  = some r → WW X h1 0 0 14 [none, none, none, none] [] := by
    intro  hf
    rw [e14] at hf
    refine s_iconst C dX11_solved_14 (v := (-1 : Int32)) (by decide) ?_
    exact s_ireturn C E dX11_solved_15 hf (Nat.le_of_ble_eq_true rfl) (Nat.le_of_ble_eq_true rfl)
  refine s_ifnull (tgt := 14) C dX11_solved_7 (by decide) hf (fun hf => ?_) (fun hf => ?_)
  · refine s_weak (lv' := [none, none, none, none]) trivial ?_
    exact k14 hf
  · refine s_iload_n C dX11_solved_10 rfl ?_
    refine s_if_ge (tgt := 16) C dX11_solved_11 (by decide) hf (fun hf => ?_) (fun hf => ?_)
    · refine s_aload_n C dX11_solved_16 rfl ?_
      refine s_callV (rvf := fun x => some (.int x)) (st := []) (fr := 0) (lo := 0) (mc := 0) (ms := 0) C [5] wc_X5_tellsCell wml_X11_254 wim_X5_tellsCell wsl_5_X5_tellsCell dX11_solved_17 (As := []) rfl hf (fun x h' hF => c_X5_tellsCell _ _ _ _ (x, h') hF) rfl (Nat.le_of_ble_eq_true rfl) (room_ok hX (Nat.le_of_ble_eq_true rfl) (Nat.le_of_ble_eq_true rfl)) (cell_ok hX (Nat.le_of_ble_eq_true rfl) (Nat.le_of_ble_eq_true rfl)) (fun v4 h3 hf => ?_)
      refine s_if_ne (tgt := 26) C dX11_solved_20 (by decide) hf (fun hf => ?_) (fun hf => ?_)
      · refine s_aload_n C dX11_solved_26 rfl ?_
        refine s_iload_n C dX11_solved_27 rfl ?_
        refine s_callV (rvf := fun x => some (.int x)) (st := []) (fr := 106) (lo := 6131) (mc := 0) (ms := 0) C [5] wc_X5_findSolution wml_X11_261 wim_X5_findSolution wsl_5_X5_findSolution dX11_solved_28 (As := [.inl a2]) rfl hf (fun x h' hF => c_X5_findSolution _ _ _ _ _ (x, h') hF) rfl (Nat.le_of_ble_eq_true rfl) (room_ok hX (Nat.le_of_ble_eq_true rfl) (Nat.le_of_ble_eq_true rfl)) (cell_ok hX (Nat.le_of_ble_eq_true rfl) (Nat.le_of_ble_eq_true rfl)) (fun v6 h5 hf => ?_)
        refine s_jn hf (fun j42 e42 hf => ?_)
        have k42 : ∀ (x7 : Int32), j42 x7 = some r → WW X h5 0 0 42 [none, none, none, none] [.int x7] := by
          intro x7 hf
          rw [e42] at hf
          exact s_ireturn C E dX11_solved_42 hf (Nat.le_of_ble_eq_true rfl) (Nat.le_of_ble_eq_true rfl)
        refine s_if_eq (tgt := 41) C dX11_solved_31 (by decide) hf (fun hf => ?_) (fun hf => ?_)
        · refine s_iconst C dX11_solved_41 (v := (-1 : Int32)) (by decide) ?_
          refine s_weak (lv' := [none, none, none, none]) trivial ?_
          exact k42 _ hf
        · refine s_aload_n C dX11_solved_34 rfl ?_
          refine s_getI C fl_X11_267 dX11_solved_35 hf (fun v8 hf => ?_)
          refine s_goto (tgt := 42) C dX11_solved_38 (by decide) ?_
          refine s_weak (lv' := [none, none, none, none]) trivial ?_
          exact k42 _ hf
      · refine s_bipush C dX11_solved_23 (v := (-2 : Int32)) (by decide) ?_
        exact s_ireturn C E dX11_solved_25 hf (Nat.le_of_ble_eq_true rfl) (Nat.le_of_ble_eq_true rfl)
    · refine s_weak (lv' := [none, none, none, none]) trivial ?_
      exact k14 hf
/-- HillBoxes.step(I)I -/
noncomputable def f_X11_step (o : Option Nat) (a1 : Int32) (h : AH) : Option (Int32 × AH) :=
  cl (f_X11_isCell a1 h) fun v2 h1 =>
  if v2 = 0 then
    some ((-1 : Int32), h1)
  else
    fR h1 [11] o 0 fun v3 =>
    fI h1 [3] v3 5 fun v4 =>
    if v4 < (4 : Int32) then
      fR h1 [11] o 0 fun v5 =>
      fR h1 [3] v5 4 fun v6 =>
      fR h1 [11] o 0 fun v7 =>
      fI h1 [3] v7 5 fun v8 =>
      bI h1 20 v6 v8 a1 fun h9 =>
      fR h9 [11] o 0 fun v10 =>
      fI h9 [3] v10 5 fun v11 =>
      pI h9 [3] v10 5 (v11 + (1 : Int32)) fun h12 =>
      fR h12 [11] o 0 fun v13 =>
      fI h12 [3] v13 5 fun v14 =>
      some (v14, h12)
    else
      some ((-3 : Int32), h1)
set_option maxRecDepth 100000 in
set_option maxHeartbeats 4000000 in
theorem c_X11_step (l : Launch) (D : DT) (o : Option Nat) (a1 : Int32) (h : AH) (r : Int32 × AH) (hf : f_X11_step o a1 h = some r) : CM l D yX11_step cX11_step 2 (some .int) 1 20 0 0 [.inr (.inr o), .inl a1] h (some (.int r.1)) r.2 := by
  refine CM.of (by decide) (Nat.le_of_ble_eq_true rfl) (fun X hl C hD hX hnm E => ?_)
  subst hl
  subst hD
  have C : CX X RX11 cX11_step 2 := C
  show WW X h 0 0 0 [some (rB (xD X).1 o), some (.int a1)] []
  unfold f_X11_step at hf
  refine s_iload_n C dX11_step_0 rfl ?_
  refine s_callS (rvf := fun x => some (.int x)) (st := []) (fr := 0) (lo := 0) (mc := 0) (ms := 0) C wc_X11_isCell wml_X11_56 wst_X11_isCell dX11_step_1 (As := [.inl a1]) rfl hf (fun x h' hF => c_X11_isCell _ _ _ _ (x, h') hF) rfl (Nat.le_of_ble_eq_true rfl) (room_ok hX (Nat.le_of_ble_eq_true rfl) (Nat.le_of_ble_eq_true rfl)) (cell_ok hX (Nat.le_of_ble_eq_true rfl) (Nat.le_of_ble_eq_true rfl)) (fun v2 h1 hf => ?_)
  refine s_if_ne (tgt := 9) C dX11_step_4 (by decide) hf (fun hf => ?_) (fun hf => ?_)
  · refine s_aload_n C dX11_step_9 rfl ?_
    refine s_getR C fl_X11_10 dX11_step_10 hf (fun v3 hf => ?_)
    refine s_getI C fl_X11_100 dX11_step_13 hf (fun v4 hf => ?_)
    refine s_iconst C dX11_step_16 (v := (4 : Int32)) (by decide) ?_
    refine s_icmp_lt (tgt := 23) C dX11_step_17 (by decide) hf (fun hf => ?_) (fun hf => ?_)
    · refine s_aload_n C dX11_step_23 rfl ?_
      refine s_getR C fl_X11_10 dX11_step_24 hf (fun v5 hf => ?_)
      refine s_getR C fl_X11_103 dX11_step_27 hf (fun v6 hf => ?_)
      refine s_aload_n C dX11_step_30 rfl ?_
      refine s_getR C fl_X11_10 dX11_step_31 hf (fun v7 hf => ?_)
      refine s_getI C fl_X11_100 dX11_step_34 hf (fun v8 hf => ?_)
      refine s_iload_n C dX11_step_37 rfl ?_
      refine s_iastore C dX11_step_38 hf (fun h9 hf => ?_)
      refine s_aload_n C dX11_step_39 rfl ?_
      refine s_getR C fl_X11_10 dX11_step_40 hf (fun v10 hf => ?_)
      refine s_dup C dX11_step_43 c1_r ?_
      refine s_getI C fl_X11_100 dX11_step_44 hf (fun v11 hf => ?_)
      refine s_iconst C dX11_step_47 (v := (1 : Int32)) (by decide) ?_
      refine s_iadd C dX11_step_48 ?_
      refine s_putI C fl_X11_100 (by decide) dX11_step_49 hf (fun h12 hf => ?_)
      refine s_aload_n C dX11_step_52 rfl ?_
      refine s_getR C fl_X11_10 dX11_step_53 hf (fun v13 hf => ?_)
      refine s_getI C fl_X11_100 dX11_step_56 hf (fun v14 hf => ?_)
      exact s_ireturn C E dX11_step_59 hf (Nat.le_of_ble_eq_true rfl) (Nat.le_of_ble_eq_true rfl)
    · refine s_bipush C dX11_step_20 (v := (-3 : Int32)) (by decide) ?_
      exact s_ireturn C E dX11_step_22 hf (Nat.le_of_ble_eq_true rfl) (Nat.le_of_ble_eq_true rfl)
  · refine s_iconst C dX11_step_7 (v := (-1 : Int32)) (by decide) ?_
    exact s_ireturn C E dX11_step_8 hf (Nat.le_of_ble_eq_true rfl) (Nat.le_of_ble_eq_true rfl)
