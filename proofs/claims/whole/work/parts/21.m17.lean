/-- HillBoxesModel.solve(II)I -/
noncomputable def f_X12_solve (o : Option Nat) (a1 : Int32) (a2 : Int32) (h : AH) : Option (Int32 × AH) :=
  rO h [12] o <| cl (f_X12_isRiddle o a1 h) fun v2 h1 =>
  jn (
    some ((-1 : Int32), h1)) fun j13 =>
  if v2 = 0 then
    j13
  else
    if (-1 : Int32) ≤ a2 then
      rO h1 [12] o <| cl (f_X12_canSolve o a1 h1) fun v4 h3 =>
      if v4 = 0 then
        some ((-2 : Int32), h3)
      else
        rO h3 [12] o <| cl (f_X12_solveAll o a1 a2 h3) fun _ h5 =>
        jn (fun (x6 : Int32) =>
          some (x6, h5)) fun j59 =>
        if 0 ≤ a2 then
          fI h5 [12] o 54 fun v7 =>
          if v7 ≤ a2 then
            j59 (-1 : Int32)
          else
            fI h5 [12] o 56 fun v8 =>
            j59 v8
        else
          fI h5 [12] o 54 fun v9 =>
          j59 v9
    else
      j13
set_option maxRecDepth 100000 in
set_option maxHeartbeats 4000000 in
theorem c_X12_solve (l : Launch) (D : DT) (o : Option Nat) (a1 : Int32) (a2 : Int32) (h : AH) (r : Int32 × AH) (hf : f_X12_solve o a1 a2 h = some r) : CM l D yX12_solve cX12_solve 3 (some .int) 104 6091 0 0 [.inr (.inr o), .inl a1, .inl a2] h (some (.int r.1)) r.2 := by
  refine CM.of (by decide) (Nat.le_of_ble_eq_true rfl) (fun X hl C hD hX hnm E => ?_)
  subst hl
  subst hD
  have C : CX X RX12 cX12_solve 3 := C
  show WW X h 0 0 0 [some (rB (xD X).1 o), some (.int a1), some (.int a2)] []
  unfold f_X12_solve at hf
  refine s_aload_n C dX12_solve_0 rfl ?_
  refine s_iload_n C dX12_solve_1 rfl ?_
  refine s_callV (rvf := fun x => some (.int x)) (st := []) (fr := 2) (lo := 43) (mc := 0) (ms := 0) C [12] wc_X12_isRiddle wml_X12_463 wim_X12_isRiddle wsl_12_X12_isRiddle dX12_solve_2 (As := [.inl a1]) rfl hf (fun x h' hF => c_X12_isRiddle _ _ _ _ _ (x, h') hF) rfl (Nat.le_of_ble_eq_true rfl) (room_ok hX (Nat.le_of_ble_eq_true rfl) (Nat.le_of_ble_eq_true rfl)) (cell_ok hX (Nat.le_of_ble_eq_true rfl) (Nat.le_of_ble_eq_true rfl)) (fun v2 h1 hf => ?_)
  refine s_jn hf (fun j13 e13 hf => ?_)
  have k13 : j13  = some r → WW X h1 0 0 13 [none, none, none] [] := by
    intro  hf
    rw [e13] at hf
    refine s_iconst C dX12_solve_13 (v := (-1 : Int32)) (by decide) ?_
    exact s_ireturn C E dX12_solve_14 hf (Nat.le_of_ble_eq_true rfl) (Nat.le_of_ble_eq_true rfl)
  refine s_if_eq (tgt := 13) C dX12_solve_5 (by decide) hf (fun hf => ?_) (fun hf => ?_)
  · refine s_weak (lv' := [none, none, none]) trivial ?_
    exact k13 hf
  · refine s_iload_n C dX12_solve_8 rfl ?_
    refine s_iconst C dX12_solve_9 (v := (-1 : Int32)) (by decide) ?_
    refine s_icmp_ge (tgt := 15) C dX12_solve_10 (by decide) hf (fun hf => ?_) (fun hf => ?_)
    · refine s_aload_n C dX12_solve_15 rfl ?_
      refine s_iload_n C dX12_solve_16 rfl ?_
      refine s_callV (rvf := fun x => some (.int x)) (st := []) (fr := 1) (lo := 23) (mc := 0) (ms := 0) C [12] wc_X12_canSolve wml_X12_512 wim_X12_canSolve wsl_12_X12_canSolve dX12_solve_17 (As := [.inl a1]) rfl hf (fun x h' hF => c_X12_canSolve _ _ _ _ _ (x, h') hF) rfl (Nat.le_of_ble_eq_true rfl) (room_ok hX (Nat.le_of_ble_eq_true rfl) (Nat.le_of_ble_eq_true rfl)) (cell_ok hX (Nat.le_of_ble_eq_true rfl) (Nat.le_of_ble_eq_true rfl)) (fun v4 h3 hf => ?_)
      refine s_if_ne (tgt := 26) C dX12_solve_20 (by decide) hf (fun hf => ?_) (fun hf => ?_)
      · refine s_aload_n C dX12_solve_26 rfl ?_
        refine s_iload_n C dX12_solve_27 rfl ?_
        refine s_iload_n C dX12_solve_28 rfl ?_
        refine s_callV (rvf := fun _ => none) (st := []) (fr := 103) (lo := 6069) (mc := 0) (ms := 0) C [12] wc_X12_solveAll wml_X12_515 wim_X12_solveAll wsl_12_X12_solveAll dX12_solve_29 (As := [.inl a1, .inl a2]) rfl hf (fun x h' hF => c_X12_solveAll _ _ _ _ _ _ (x, h') hF) rfl (Nat.le_of_ble_eq_true rfl) (room_ok hX (Nat.le_of_ble_eq_true rfl) (Nat.le_of_ble_eq_true rfl)) (cell_ok hX (Nat.le_of_ble_eq_true rfl) (Nat.le_of_ble_eq_true rfl)) (fun _ h5 hf => ?_)
        refine s_iload_n C dX12_solve_32 rfl ?_
        refine s_jn hf (fun j59 e59 hf => ?_)
        have k59 : ∀ (x6 : Int32), j59 x6 = some r → WW X h5 0 0 59 [none, none, none] [.int x6] := by
          intro x6 hf
          rw [e59] at hf
          exact s_ireturn C E dX12_solve_59 hf (Nat.le_of_ble_eq_true rfl) (Nat.le_of_ble_eq_true rfl)
        refine s_if_ge (tgt := 43) C dX12_solve_33 (by decide) hf (fun hf => ?_) (fun hf => ?_)
        · refine s_iload_n C dX12_solve_43 rfl ?_
          refine s_aload_n C dX12_solve_44 rfl ?_
          refine s_getI C fl_X12_490 dX12_solve_45 hf (fun v7 hf => ?_)
          refine s_icmp_ge (tgt := 58) C dX12_solve_48 (by decide) hf (fun hf => ?_) (fun hf => ?_)
          · refine s_iconst C dX12_solve_58 (v := (-1 : Int32)) (by decide) ?_
            refine s_weak (lv' := [none, none, none]) trivial ?_
            exact k59 _ hf
          · refine s_aload_n C dX12_solve_51 rfl ?_
            refine s_getI C fl_X12_496 dX12_solve_52 hf (fun v8 hf => ?_)
            refine s_goto (tgt := 59) C dX12_solve_55 (by decide) ?_
            refine s_weak (lv' := [none, none, none]) trivial ?_
            exact k59 _ hf
        · refine s_aload_n C dX12_solve_36 rfl ?_
          refine s_getI C fl_X12_490 dX12_solve_37 hf (fun v9 hf => ?_)
          refine s_goto (tgt := 59) C dX12_solve_40 (by decide) ?_
          refine s_weak (lv' := [none, none, none]) trivial ?_
          exact k59 _ hf
      · refine s_bipush C dX12_solve_23 (v := (-2 : Int32)) (by decide) ?_
        exact s_ireturn C E dX12_solve_25 hf (Nat.le_of_ble_eq_true rfl) (Nat.le_of_ble_eq_true rfl)
    · refine s_weak (lv' := [none, none, none]) trivial ?_
      exact k13 hf
/-- HillBoxesModel.solved(II)I -/
noncomputable def f_X12_solved (o : Option Nat) (a1 : Int32) (a2 : Int32) (h : AH) : Option (Int32 × AH) :=
  rO h [12] o <| cl (f_X12_isRiddle o a1 h) fun v2 h1 =>
  jn (
    some ((-1 : Int32), h1)) fun j12 =>
  if v2 = 0 then
    j12
  else
    if 0 ≤ a2 then
      rO h1 [12] o <| cl (f_X12_canSolve o a1 h1) fun v4 h3 =>
      if v4 = 0 then
        some ((-2 : Int32), h3)
      else
        rO h3 [12] o <| cl (f_X12_solveAll o a1 a2 h3) fun _ h5 =>
        fI h5 [12] o 54 fun v6 =>
        jn (fun (x7 : Int32) =>
          some (x7, h5)) fun j47 =>
        if v6 ≤ a2 then
          j47 (-1 : Int32)
        else
          fI h5 [12] o 57 fun v8 =>
          j47 v8
    else
      j12
set_option maxRecDepth 100000 in
set_option maxHeartbeats 4000000 in
theorem c_X12_solved (l : Launch) (D : DT) (o : Option Nat) (a1 : Int32) (a2 : Int32) (h : AH) (r : Int32 × AH) (hf : f_X12_solved o a1 a2 h = some r) : CM l D yX12_solved cX12_solved 3 (some .int) 104 6091 0 0 [.inr (.inr o), .inl a1, .inl a2] h (some (.int r.1)) r.2 := by
  refine CM.of (by decide) (Nat.le_of_ble_eq_true rfl) (fun X hl C hD hX hnm E => ?_)
  subst hl
  subst hD
  have C : CX X RX12 cX12_solved 3 := C
  show WW X h 0 0 0 [some (rB (xD X).1 o), some (.int a1), some (.int a2)] []
  unfold f_X12_solved at hf
  refine s_aload_n C dX12_solved_0 rfl ?_
  refine s_iload_n C dX12_solved_1 rfl ?_
  refine s_callV (rvf := fun x => some (.int x)) (st := []) (fr := 2) (lo := 43) (mc := 0) (ms := 0) C [12] wc_X12_isRiddle wml_X12_463 wim_X12_isRiddle wsl_12_X12_isRiddle dX12_solved_2 (As := [.inl a1]) rfl hf (fun x h' hF => c_X12_isRiddle _ _ _ _ _ (x, h') hF) rfl (Nat.le_of_ble_eq_true rfl) (room_ok hX (Nat.le_of_ble_eq_true rfl) (Nat.le_of_ble_eq_true rfl)) (cell_ok hX (Nat.le_of_ble_eq_true rfl) (Nat.le_of_ble_eq_true rfl)) (fun v2 h1 hf => ?_)
  refine s_jn hf (fun j12 e12 hf => ?_)
  have k12 : j12  = some r → WW X h1 0 0 12 [none, none, none] [] := by
    intro  hf
    rw [e12] at hf
    refine s_iconst C dX12_solved_12 (v := (-1 : Int32)) (by decide) ?_
    exact s_ireturn C E dX12_solved_13 hf (Nat.le_of_ble_eq_true rfl) (Nat.le_of_ble_eq_true rfl)
  refine s_if_eq (tgt := 12) C dX12_solved_5 (by decide) hf (fun hf => ?_) (fun hf => ?_)
  · refine s_weak (lv' := [none, none, none]) trivial ?_
    exact k12 hf
  · refine s_iload_n C dX12_solved_8 rfl ?_
    refine s_if_ge (tgt := 14) C dX12_solved_9 (by decide) hf (fun hf => ?_) (fun hf => ?_)
    · refine s_aload_n C dX12_solved_14 rfl ?_
      refine s_iload_n C dX12_solved_15 rfl ?_
      refine s_callV (rvf := fun x => some (.int x)) (st := []) (fr := 1) (lo := 23) (mc := 0) (ms := 0) C [12] wc_X12_canSolve wml_X12_512 wim_X12_canSolve wsl_12_X12_canSolve dX12_solved_16 (As := [.inl a1]) rfl hf (fun x h' hF => c_X12_canSolve _ _ _ _ _ (x, h') hF) rfl (Nat.le_of_ble_eq_true rfl) (room_ok hX (Nat.le_of_ble_eq_true rfl) (Nat.le_of_ble_eq_true rfl)) (cell_ok hX (Nat.le_of_ble_eq_true rfl) (Nat.le_of_ble_eq_true rfl)) (fun v4 h3 hf => ?_)
      refine s_if_ne (tgt := 25) C dX12_solved_19 (by decide) hf (fun hf => ?_) (fun hf => ?_)
      · refine s_aload_n C dX12_solved_25 rfl ?_
        refine s_iload_n C dX12_solved_26 rfl ?_
        refine s_iload_n C dX12_solved_27 rfl ?_
        refine s_callV (rvf := fun _ => none) (st := []) (fr := 103) (lo := 6069) (mc := 0) (ms := 0) C [12] wc_X12_solveAll wml_X12_515 wim_X12_solveAll wsl_12_X12_solveAll dX12_solved_28 (As := [.inl a1, .inl a2]) rfl hf (fun x h' hF => c_X12_solveAll _ _ _ _ _ _ (x, h') hF) rfl (Nat.le_of_ble_eq_true rfl) (room_ok hX (Nat.le_of_ble_eq_true rfl) (Nat.le_of_ble_eq_true rfl)) (cell_ok hX (Nat.le_of_ble_eq_true rfl) (Nat.le_of_ble_eq_true rfl)) (fun _ h5 hf => ?_)
        refine s_iload_n C dX12_solved_31 rfl ?_
        refine s_aload_n C dX12_solved_32 rfl ?_
        refine s_getI C fl_X12_490 dX12_solved_33 hf (fun v6 hf => ?_)
        refine s_jn hf (fun j47 e47 hf => ?_)
        have k47 : ∀ (x7 : Int32), j47 x7 = some r → WW X h5 0 0 47 [none, none, none] [.int x7] := by
          intro x7 hf
          rw [e47] at hf
          exact s_ireturn C E dX12_solved_47 hf (Nat.le_of_ble_eq_true rfl) (Nat.le_of_ble_eq_true rfl)
        refine s_icmp_ge (tgt := 46) C dX12_solved_36 (by decide) hf (fun hf => ?_) (fun hf => ?_)
        · refine s_iconst C dX12_solved_46 (v := (-1 : Int32)) (by decide) ?_
          refine s_weak (lv' := [none, none, none]) trivial ?_
          exact k47 _ hf
        · refine s_aload_n C dX12_solved_39 rfl ?_
          refine s_getI C fl_X12_499 dX12_solved_40 hf (fun v8 hf => ?_)
          refine s_goto (tgt := 47) C dX12_solved_43 (by decide) ?_
          refine s_weak (lv' := [none, none, none]) trivial ?_
          exact k47 _ hf
      · refine s_bipush C dX12_solved_22 (v := (-2 : Int32)) (by decide) ?_
        exact s_ireturn C E dX12_solved_24 hf (Nat.le_of_ble_eq_true rfl) (Nat.le_of_ble_eq_true rfl)
    · refine s_weak (lv' := [none, none, none]) trivial ?_
      exact k12 hf
/-- HillBoxesModel.step(I)I -/
noncomputable def f_X12_step (o : Option Nat) (a1 : Int32) (h : AH) : Option (Int32 × AH) :=
  cl (f_X12_isCell a1 h) fun v2 h1 =>
  if v2 = 0 then
    some ((-1 : Int32), h1)
  else
    fI h1 [12] o 11 fun v3 =>
    if v3 = (4 : Int32) then
      some ((-3 : Int32), h1)
    else
      fR h1 [12] o 12 fun v4 =>
      fI h1 [12] o 11 fun v5 =>
      bI h1 20 v4 v5 a1 fun h6 =>
      fI h6 [12] o 11 fun v7 =>
      pI h6 [12] o 11 (v7 + (1 : Int32)) fun h8 =>
      fI h8 [12] o 11 fun v9 =>
      some (v9, h8)
set_option maxRecDepth 100000 in
set_option maxHeartbeats 4000000 in
theorem c_X12_step (l : Launch) (D : DT) (o : Option Nat) (a1 : Int32) (h : AH) (r : Int32 × AH) (hf : f_X12_step o a1 h = some r) : CM l D yX12_step cX12_step 2 (some .int) 2 42 0 0 [.inr (.inr o), .inl a1] h (some (.int r.1)) r.2 := by
  refine CM.of (by decide) (Nat.le_of_ble_eq_true rfl) (fun X hl C hD hX hnm E => ?_)
  subst hl
  subst hD
  have C : CX X RX12 cX12_step 2 := C
  show WW X h 0 0 0 [some (rB (xD X).1 o), some (.int a1)] []
  unfold f_X12_step at hf
  refine s_iload_n C dX12_step_0 rfl ?_
  refine s_callS (rvf := fun x => some (.int x)) (st := []) (fr := 1) (lo := 22) (mc := 0) (ms := 0) C wc_X12_isCell wml_X12_206 wst_X12_isCell dX12_step_1 (As := [.inl a1]) rfl hf (fun x h' hF => c_X12_isCell _ _ _ _ (x, h') hF) rfl (Nat.le_of_ble_eq_true rfl) (room_ok hX (Nat.le_of_ble_eq_true rfl) (Nat.le_of_ble_eq_true rfl)) (cell_ok hX (Nat.le_of_ble_eq_true rfl) (Nat.le_of_ble_eq_true rfl)) (fun v2 h1 hf => ?_)
  refine s_if_ne (tgt := 9) C dX12_step_4 (by decide) hf (fun hf => ?_) (fun hf => ?_)
  · refine s_aload_n C dX12_step_9 rfl ?_
    refine s_getI C fl_X12_233 dX12_step_10 hf (fun v3 hf => ?_)
    refine s_iconst C dX12_step_13 (v := (4 : Int32)) (by decide) ?_
    refine s_icmp_ne (tgt := 20) C dX12_step_14 (by decide) hf (fun hf => ?_) (fun hf => ?_)
    · refine s_aload_n C dX12_step_20 rfl ?_
      refine s_getR C fl_X12_34 dX12_step_21 hf (fun v4 hf => ?_)
      refine s_aload_n C dX12_step_24 rfl ?_
      refine s_getI C fl_X12_233 dX12_step_25 hf (fun v5 hf => ?_)
      refine s_iload_n C dX12_step_28 rfl ?_
      refine s_iastore C dX12_step_29 hf (fun h6 hf => ?_)
      refine s_aload_n C dX12_step_30 rfl ?_
      refine s_dup C dX12_step_31 c1_r ?_
      refine s_getI C fl_X12_233 dX12_step_32 hf (fun v7 hf => ?_)
      refine s_iconst C dX12_step_35 (v := (1 : Int32)) (by decide) ?_
      refine s_iadd C dX12_step_36 ?_
      refine s_putI C fl_X12_233 (by decide) dX12_step_37 hf (fun h8 hf => ?_)
      refine s_aload_n C dX12_step_40 rfl ?_
      refine s_getI C fl_X12_233 dX12_step_41 hf (fun v9 hf => ?_)
      exact s_ireturn C E dX12_step_44 hf (Nat.le_of_ble_eq_true rfl) (Nat.le_of_ble_eq_true rfl)
    · refine s_bipush C dX12_step_17 (v := (-3 : Int32)) (by decide) ?_
      exact s_ireturn C E dX12_step_19 hf (Nat.le_of_ble_eq_true rfl) (Nat.le_of_ble_eq_true rfl)
  · refine s_iconst C dX12_step_7 (v := (-1 : Int32)) (by decide) ?_
    exact s_ireturn C E dX12_step_8 hf (Nat.le_of_ble_eq_true rfl) (Nat.le_of_ble_eq_true rfl)
/-- HillBoxesModel.takerOf(I)I -/
noncomputable def f_X12_takerOf (o : Option Nat) (a1 : Int32) (h : AH) : Option (Int32 × AH) :=
  lp (fun _ _ _ _ => none) (fun (L8 : Int32 → Int32 → Int32 → AH → Option (Int32 × AH)) (x1 : Int32) (x2 : Int32) (x3 : Int32) (h4 : AH) =>
    fR h4 [12] o 62 fun v5 =>
    aI h4 22 v5 a1 fun v6 =>
    if v6 ≤ x3 then
      some (x1, h4)
    else
      fR h4 [12] o 63 fun v7 =>
      aI h4 21 v7 (((8 : Int32) * a1) + x3) fun v8 =>
      fR h4 [12] o 5 fun v9 =>
      aI h4 20 v9 v8 fun v10 =>
      rO h4 [12] o <| cl (f_X12_liesNow o a1 h4) fun v12 h11 =>
      cl (f_X12_farOf v10 v12 h11) fun v14 h13 =>
      fR h13 [12] o 7 fun v15 =>
      aI h13 20 v15 v8 fun v16 =>
      jn (fun (x17 : Int32) (x18 : Int32) (h19 : AH) =>
        L8 x17 x18 (x3 + 1) h19) fun j111 =>
      if 0 ≤ v16 then
        j111 x1 x2 h13
      else
        fR h13 [12] o 4 fun v20 =>
        aI h13 20 v20 a1 fun v21 =>
        rO h13 [12] o <| cl (f_X12_hideBy o v8 v21 v14 h13) fun v23 h22 =>
        if v23 = 0 then
          j111 x1 x2 h22
        else
          jn (
            j111 v8 v14 h22) fun j105 =>
          if x1 < 0 then
            j105
          else
            if x2 < v14 then
              j111 x1 x2 h22
            else
              if v14 = x2 then
                if v8 ≤ x1 then
                  j105
                else
                  j111 x1 x2 h22
              else
                j105) lpN (-2 : Int32) (0 : Int32) (0 : Int32) h
set_option maxRecDepth 100000 in
set_option maxHeartbeats 4000000 in
theorem c_X12_takerOf (l : Launch) (D : DT) (o : Option Nat) (a1 : Int32) (h : AH) (r : Int32 × AH) (hf : f_X12_takerOf o a1 h = some r) : CM l D yX12_takerOf cX12_takerOf 7 (some .int) 7 153 0 0 [.inr (.inr o), .inl a1] h (some (.int r.1)) r.2 := by
  refine CM.of (by decide) (Nat.le_of_ble_eq_true rfl) (fun X hl C hD hX hnm E => ?_)
  subst hl
  subst hD
  have C : CX X RX12 cX12_takerOf 7 := C
  show WW X h 0 0 0 [some (rB (xD X).1 o), some (.int a1), none, none, none, none, none] []
  unfold f_X12_takerOf at hf
  refine s_bipush C dX12_takerOf_0 (v := (-2 : Int32)) (by decide) ?_
  refine s_istore_n C dX12_takerOf_2 (by decide) (nc_i rfl) (lv' := [some (rB (xD X).1 o), some (.int a1), some (.int (-2 : Int32)), none, none, none, none]) rfl ?_
  refine s_iconst C dX12_takerOf_3 (v := (0 : Int32)) (by decide) ?_
  refine s_istore_n C dX12_takerOf_4 (by decide) (nc_i rfl) (lv' := [some (rB (xD X).1 o), some (.int a1), some (.int (-2 : Int32)), some (.int (0 : Int32)), none, none, none]) rfl ?_
  refine s_iconst C dX12_takerOf_5 (v := (0 : Int32)) (by decide) ?_
  refine s_istore C dX12_takerOf_6 (by decide) (nc_i rfl) (lv' := [some (rB (xD X).1 o), some (.int a1), some (.int (-2 : Int32)), some (.int (0 : Int32)), some (.int (0 : Int32)), none, none]) rfl ?_
  refine s_lp4 hf (fun G8 z8 q8 hf => ?_)
  have k8 : ∀ (n : Nat) (x1 : Int32) (x2 : Int32) (x3 : Int32) (h4 : AH), G8 n x1 x2 x3 h4 = some r → WW X h4 0 0 8 [some (rB (xD X).1 o), some (.int a1), some (.int x1), some (.int x2), some (.int x3), none, none] [] := by
    intro n
    induction n with
    | zero =>
      intro x1 x2 x3 h4 hf
      rw [z8] at hf
      cases hf
    | succ n ih8 =>
      intro x1 x2 x3 h4 hf
      have hf := (q8 n x1 x2 x3 h4).symm.trans hf
      refine s_iload C dX12_takerOf_8 rfl ?_
      refine s_aload_n C dX12_takerOf_10 rfl ?_
      refine s_getR C fl_X12_130 dX12_takerOf_11 hf (fun v5 hf => ?_)
      refine s_iload_n C dX12_takerOf_14 rfl ?_
      refine s_baload C dX12_takerOf_15 hf (fun v6 hf => ?_)
      refine s_icmp_ge (tgt := 117) C dX12_takerOf_16 (by decide) hf (fun hf => ?_) (fun hf => ?_)
      · refine s_iload_n C dX12_takerOf_117 rfl ?_
        exact s_ireturn C E dX12_takerOf_118 hf (Nat.le_of_ble_eq_true rfl) (Nat.le_of_ble_eq_true rfl)
      · refine s_aload_n C dX12_takerOf_19 rfl ?_
        refine s_getR C fl_X12_133 dX12_takerOf_20 hf (fun v7 hf => ?_)
        refine s_bipush C dX12_takerOf_23 (v := (8 : Int32)) (by decide) ?_
        refine s_iload_n C dX12_takerOf_25 rfl ?_
        refine s_imul C dX12_takerOf_26 ?_
        refine s_iload C dX12_takerOf_27 rfl ?_
        refine s_iadd C dX12_takerOf_29 ?_
        refine s_saload C dX12_takerOf_30 hf (fun v8 hf => ?_)
        refine s_istore C dX12_takerOf_31 (by decide) (nc_i rfl) (lv' := [some (rB (xD X).1 o), some (.int a1), some (.int x1), some (.int x2), some (.int x3), some (.int v8), none]) rfl ?_
        refine s_aload_n C dX12_takerOf_33 rfl ?_
        refine s_getR C fl_X12_16 dX12_takerOf_34 hf (fun v9 hf => ?_)
        refine s_iload C dX12_takerOf_37 rfl ?_
        refine s_iaload C dX12_takerOf_39 hf (fun v10 hf => ?_)
        refine s_aload_n C dX12_takerOf_40 rfl ?_
        refine s_iload_n C dX12_takerOf_41 rfl ?_
        refine s_callV (rvf := fun x => some (.int x)) (st := [.int v10]) (fr := 1) (lo := 22) (mc := 0) (ms := 0) C [12] wc_X12_liesNow wml_X12_242 wim_X12_liesNow wsl_12_X12_liesNow dX12_takerOf_42 (As := [.inl a1]) rfl hf (fun x h' hF => c_X12_liesNow _ _ _ _ _ (x, h') hF) rfl (Nat.le_of_ble_eq_true rfl) (room_ok hX (Nat.le_of_ble_eq_true rfl) (Nat.le_of_ble_eq_true rfl)) (cell_ok hX (Nat.le_of_ble_eq_true rfl) (Nat.le_of_ble_eq_true rfl)) (fun v12 h11 hf => ?_)
        refine s_callS (rvf := fun x => some (.int x)) (st := []) (fr := 1) (lo := 20) (mc := 0) (ms := 0) C wc_X12_farOf wml_X12_308 wst_X12_farOf dX12_takerOf_45 (As := [.inl v10, .inl v12]) rfl hf (fun x h' hF => c_X12_farOf _ _ _ _ _ (x, h') hF) rfl (Nat.le_of_ble_eq_true rfl) (room_ok hX (Nat.le_of_ble_eq_true rfl) (Nat.le_of_ble_eq_true rfl)) (cell_ok hX (Nat.le_of_ble_eq_true rfl) (Nat.le_of_ble_eq_true rfl)) (fun v14 h13 hf => ?_)
        refine s_istore C dX12_takerOf_48 (by decide) (nc_i rfl) (lv' := [some (rB (xD X).1 o), some (.int a1), some (.int x1), some (.int x2), some (.int x3), some (.int v8), some (.int v14)]) rfl ?_
        refine s_aload_n C dX12_takerOf_50 rfl ?_
        refine s_getR C fl_X12_22 dX12_takerOf_51 hf (fun v15 hf => ?_)
        refine s_iload C dX12_takerOf_54 rfl ?_
        refine s_iaload C dX12_takerOf_56 hf (fun v16 hf => ?_)
        refine s_jn hf (fun j111 e111 hf => ?_)
        have k111 : ∀ (x17 : Int32) (x18 : Int32) (h19 : AH), j111 x17 x18 h19 = some r → WW X h19 0 0 111 [some (rB (xD X).1 o), some (.int a1), some (.int x17), some (.int x18), some (.int x3), none, none] [] := by
          intro x17 x18 h19 hf
          rw [e111] at hf
          refine s_iinc C dX12_takerOf_111 (v := (x3 + 1)) rfl rfl (by decide) (nc_i rfl) (lv' := [some (rB (xD X).1 o), some (.int a1), some (.int x17), some (.int x18), some (.int (x3 + 1)), none, none]) rfl ?_
          refine s_goto (tgt := 8) C dX12_takerOf_114 (by decide) ?_
          exact ih8 _ _ _ _ hf
        refine s_if_ge (tgt := 111) C dX12_takerOf_57 (by decide) hf (fun hf => ?_) (fun hf => ?_)
        · refine s_weak (lv' := [some (rB (xD X).1 o), some (.int a1), some (.int x1), some (.int x2), some (.int x3), none, none]) ⟨rfl, ⟨rfl, ⟨rfl, ⟨rfl, ⟨rfl, trivial⟩⟩⟩⟩⟩ ?_
          exact k111 _ _ _ hf
        · refine s_aload_n C dX12_takerOf_60 rfl ?_
          refine s_iload C dX12_takerOf_61 rfl ?_
          refine s_aload_n C dX12_takerOf_63 rfl ?_
          refine s_getR C fl_X12_13 dX12_takerOf_64 hf (fun v20 hf => ?_)
          refine s_iload_n C dX12_takerOf_67 rfl ?_
          refine s_iaload C dX12_takerOf_68 hf (fun v21 hf => ?_)
          refine s_iload C dX12_takerOf_69 rfl ?_
          refine s_callV (rvf := fun x => some (.int x)) (st := []) (fr := 6) (lo := 130) (mc := 0) (ms := 0) C [12] wc_X12_hideBy wml_X12_445 wim_X12_hideBy wsl_12_X12_hideBy dX12_takerOf_71 (As := [.inl v8, .inl v21, .inl v14]) rfl hf (fun x h' hF => c_X12_hideBy _ _ _ _ _ _ _ (x, h') hF) rfl (Nat.le_of_ble_eq_true rfl) (room_ok hX (Nat.le_of_ble_eq_true rfl) (Nat.le_of_ble_eq_true rfl)) (cell_ok hX (Nat.le_of_ble_eq_true rfl) (Nat.le_of_ble_eq_true rfl)) (fun v23 h22 hf => ?_)
          refine s_if_ne (tgt := 80) C dX12_takerOf_74 (by decide) hf (fun hf => ?_) (fun hf => ?_)
          · refine s_iload_n C dX12_takerOf_80 rfl ?_
            refine s_jn hf (fun j105 e105 hf => ?_)
            have k105 : j105  = some r → WW X h22 0 0 105 [some (rB (xD X).1 o), some (.int a1), none, none, some (.int x3), some (.int v8), some (.int v14)] [] := by
              intro  hf
              rw [e105] at hf
              refine s_iload C dX12_takerOf_105 rfl ?_
              refine s_istore_n C dX12_takerOf_107 (by decide) (nc_i rfl) (lv' := [some (rB (xD X).1 o), some (.int a1), some (.int v8), none, some (.int x3), some (.int v8), some (.int v14)]) rfl ?_
              refine s_iload C dX12_takerOf_108 rfl ?_
              refine s_istore_n C dX12_takerOf_110 (by decide) (nc_i rfl) (lv' := [some (rB (xD X).1 o), some (.int a1), some (.int v8), some (.int v14), some (.int x3), some (.int v8), some (.int v14)]) rfl ?_
              refine s_weak (lv' := [some (rB (xD X).1 o), some (.int a1), some (.int v8), some (.int v14), some (.int x3), none, none]) ⟨rfl, ⟨rfl, ⟨rfl, ⟨rfl, ⟨rfl, trivial⟩⟩⟩⟩⟩ ?_
              exact k111 _ _ _ hf
            refine s_if_lt (tgt := 105) C dX12_takerOf_81 (by decide) hf (fun hf => ?_) (fun hf => ?_)
            · refine s_weak (lv' := [some (rB (xD X).1 o), some (.int a1), none, none, some (.int x3), some (.int v8), some (.int v14)]) ⟨rfl, ⟨rfl, ⟨rfl, ⟨rfl, ⟨rfl, trivial⟩⟩⟩⟩⟩ ?_
              exact k105 hf
            · refine s_iload C dX12_takerOf_84 rfl ?_
              refine s_iload_n C dX12_takerOf_86 rfl ?_
              refine s_icmp_gt (tgt := 111) C dX12_takerOf_87 (by decide) hf (fun hf => ?_) (fun hf => ?_)
              · refine s_weak (lv' := [some (rB (xD X).1 o), some (.int a1), some (.int x1), some (.int x2), some (.int x3), none, none]) ⟨rfl, ⟨rfl, ⟨rfl, ⟨rfl, ⟨rfl, trivial⟩⟩⟩⟩⟩ ?_
                exact k111 _ _ _ hf
              · refine s_iload C dX12_takerOf_90 rfl ?_
                refine s_iload_n C dX12_takerOf_92 rfl ?_
                refine s_icmp_ne (tgt := 105) C dX12_takerOf_93 (by decide) hf (fun hf => ?_) (fun hf => ?_)
                · refine s_weak (lv' := [some (rB (xD X).1 o), some (.int a1), none, none, some (.int x3), some (.int v8), some (.int v14)]) ⟨rfl, ⟨rfl, ⟨rfl, ⟨rfl, ⟨rfl, trivial⟩⟩⟩⟩⟩ ?_
                  exact k105 hf
                · refine s_iload C dX12_takerOf_96 rfl ?_
                  refine s_iload_n C dX12_takerOf_98 rfl ?_
                  refine s_icmp_le (tgt := 105) C dX12_takerOf_99 (by decide) hf (fun hf => ?_) (fun hf => ?_)
                  · refine s_weak (lv' := [some (rB (xD X).1 o), some (.int a1), none, none, some (.int x3), some (.int v8), some (.int v14)]) ⟨rfl, ⟨rfl, ⟨rfl, ⟨rfl, ⟨rfl, trivial⟩⟩⟩⟩⟩ ?_
                    exact k105 hf
                  · refine s_goto (tgt := 111) C dX12_takerOf_102 (by decide) ?_
                    refine s_weak (lv' := [some (rB (xD X).1 o), some (.int a1), some (.int x1), some (.int x2), some (.int x3), none, none]) ⟨rfl, ⟨rfl, ⟨rfl, ⟨rfl, ⟨rfl, trivial⟩⟩⟩⟩⟩ ?_
                    exact k111 _ _ _ hf
          · refine s_goto (tgt := 111) C dX12_takerOf_77 (by decide) ?_
            refine s_weak (lv' := [some (rB (xD X).1 o), some (.int a1), some (.int x1), some (.int x2), some (.int x3), none, none]) ⟨rfl, ⟨rfl, ⟨rfl, ⟨rfl, ⟨rfl, trivial⟩⟩⟩⟩⟩ ?_
            exact k111 _ _ _ hf
  exact k8 lpN _ _ _ _ hf
/-- HillBoxesModel.take(I)I -/
noncomputable def f_X12_take (o : Option Nat) (a1 : Int32) (h : AH) : Option (Int32 × AH) :=
  rO h [12] o <| cl (f_X12_isBox o a1 h) fun v2 h1 =>
  if v2 = 0 then
    some ((-1 : Int32), h1)
  else
    rO h1 [12] o <| cl (f_X12_takerOf o a1 h1) fun v4 h3 =>
    if 0 ≤ v4 then
      fR h3 [12] o 8 fun v5 =>
      bI h3 20 v5 a1 v4 fun h6 =>
      fR h6 [12] o 62 fun v7 =>
      bI h6 22 v7 a1 ((0 : Int32).toInt8.toInt32) fun h8 =>
      some (v4, h8)
    else
      some ((-2 : Int32), h3)
set_option maxRecDepth 100000 in
set_option maxHeartbeats 4000000 in
theorem c_X12_take (l : Launch) (D : DT) (o : Option Nat) (a1 : Int32) (h : AH) (r : Int32 × AH) (hf : f_X12_take o a1 h = some r) : CM l D yX12_take cX12_take 3 (some .int) 8 179 0 0 [.inr (.inr o), .inl a1] h (some (.int r.1)) r.2 := by
  refine CM.of (by decide) (Nat.le_of_ble_eq_true rfl) (fun X hl C hD hX hnm E => ?_)
  subst hl
  subst hD
  have C : CX X RX12 cX12_take 3 := C
  show WW X h 0 0 0 [some (rB (xD X).1 o), some (.int a1), none] []
  unfold f_X12_take at hf
  refine s_aload_n C dX12_take_0 rfl ?_
  refine s_iload_n C dX12_take_1 rfl ?_
  refine s_callV (rvf := fun x => some (.int x)) (st := []) (fr := 2) (lo := 43) (mc := 0) (ms := 0) C [12] wc_X12_isBox wml_X12_224 wim_X12_isBox wsl_12_X12_isBox dX12_take_2 (As := [.inl a1]) rfl hf (fun x h' hF => c_X12_isBox _ _ _ _ _ (x, h') hF) rfl (Nat.le_of_ble_eq_true rfl) (room_ok hX (Nat.le_of_ble_eq_true rfl) (Nat.le_of_ble_eq_true rfl)) (cell_ok hX (Nat.le_of_ble_eq_true rfl) (Nat.le_of_ble_eq_true rfl)) (fun v2 h1 hf => ?_)
  refine s_if_ne (tgt := 10) C dX12_take_5 (by decide) hf (fun hf => ?_) (fun hf => ?_)
  · refine s_aload_n C dX12_take_10 rfl ?_
    refine s_iload_n C dX12_take_11 rfl ?_
    refine s_callV (rvf := fun x => some (.int x)) (st := []) (fr := 7) (lo := 153) (mc := 0) (ms := 0) C [12] wc_X12_takerOf wml_X12_530 wim_X12_takerOf wsl_12_X12_takerOf dX12_take_12 (As := [.inl a1]) rfl hf (fun x h' hF => c_X12_takerOf _ _ _ _ _ (x, h') hF) rfl (Nat.le_of_ble_eq_true rfl) (room_ok hX (Nat.le_of_ble_eq_true rfl) (Nat.le_of_ble_eq_true rfl)) (cell_ok hX (Nat.le_of_ble_eq_true rfl) (Nat.le_of_ble_eq_true rfl)) (fun v4 h3 hf => ?_)
    refine s_istore_n C dX12_take_15 (by decide) (nc_i rfl) (lv' := [some (rB (xD X).1 o), some (.int a1), some (.int v4)]) rfl ?_
    refine s_iload_n C dX12_take_16 rfl ?_
    refine s_if_ge (tgt := 23) C dX12_take_17 (by decide) hf (fun hf => ?_) (fun hf => ?_)
    · refine s_aload_n C dX12_take_23 rfl ?_
      refine s_getR C fl_X12_25 dX12_take_24 hf (fun v5 hf => ?_)
      refine s_iload_n C dX12_take_27 rfl ?_
      refine s_iload_n C dX12_take_28 rfl ?_
      refine s_iastore C dX12_take_29 hf (fun h6 hf => ?_)
      refine s_aload_n C dX12_take_30 rfl ?_
      refine s_getR C fl_X12_130 dX12_take_31 hf (fun v7 hf => ?_)
      refine s_iload_n C dX12_take_34 rfl ?_
      refine s_iconst C dX12_take_35 (v := (0 : Int32)) (by decide) ?_
      refine s_bastore C dX12_take_36 hf (fun h8 hf => ?_)
      refine s_iload_n C dX12_take_37 rfl ?_
      exact s_ireturn C E dX12_take_38 hf (Nat.le_of_ble_eq_true rfl) (Nat.le_of_ble_eq_true rfl)
    · refine s_bipush C dX12_take_20 (v := (-2 : Int32)) (by decide) ?_
      exact s_ireturn C E dX12_take_22 hf (Nat.le_of_ble_eq_true rfl) (Nat.le_of_ble_eq_true rfl)
  · refine s_iconst C dX12_take_8 (v := (-1 : Int32)) (by decide) ?_
    exact s_ireturn C E dX12_take_9 hf (Nat.le_of_ble_eq_true rfl) (Nat.le_of_ble_eq_true rfl)
/-- HillBoxesModel.taken(II)I -/
noncomputable def f_X12_taken (o : Option Nat) (a1 : Int32) (a2 : Int32) (h : AH) : Option (Int32 × AH) :=
  cl (f_X12_isShelf a1 h) fun v2 h1 =>
  jn (fun (h3 : AH) =>
    some ((-1 : Int32), h3)) fun j17 =>
  if v2 = 0 then
    j17 h1
  else
    cl (f_X12_in a2 (0 : Int32) (7 : Int32) h1) fun v5 h4 =>
    if v5 = 0 then
      j17 h4
    else
      fR h4 [12] o 86 fun v6 =>
      aI h4 20 v6 a1 fun v7 =>
      if v7 = (-1 : Int32) then
        some ((-11 : Int32), h4)
      else
        fR h4 [12] o 86 fun v8 =>
        aI h4 20 v8 a1 fun v9 =>
        jn (fun (x10 : Int32) (h11 : AH) =>
          some (x10, h11)) fun j75 =>
        jn (fun (h12 : AH) =>
          j75 (-12 : Int32) h12) fun j73 =>
        if v9 < 0 then
          j73 h4
        else
          fR h4 [12] o 4 fun v13 =>
          fR h4 [12] o 86 fun v14 =>
          aI h4 20 v14 a1 fun v15 =>
          aI h4 20 v13 v15 fun v16 =>
          cl (f_X12_isUnder v16 a2 h4) fun v18 h17 =>
          if v18 = 0 then
            j73 h17
          else
            fR h17 [12] o 4 fun v19 =>
            fR h17 [12] o 86 fun v20 =>
            aI h17 20 v20 a1 fun v21 =>
            aI h17 20 v19 v21 fun v22 =>
            j75 v22 h17
set_option maxRecDepth 100000 in
set_option maxHeartbeats 4000000 in
theorem c_X12_taken (l : Launch) (D : DT) (o : Option Nat) (a1 : Int32) (a2 : Int32) (h : AH) (r : Int32 × AH) (hf : f_X12_taken o a1 a2 h = some r) : CM l D yX12_taken cX12_taken 3 (some .int) 2 43 0 0 [.inr (.inr o), .inl a1, .inl a2] h (some (.int r.1)) r.2 := by
  refine CM.of (by decide) (Nat.le_of_ble_eq_true rfl) (fun X hl C hD hX hnm E => ?_)
  subst hl
  subst hD
  have C : CX X RX12 cX12_taken 3 := C
  show WW X h 0 0 0 [some (rB (xD X).1 o), some (.int a1), some (.int a2)] []
  unfold f_X12_taken at hf
  refine s_iload_n C dX12_taken_0 rfl ?_
  refine s_callS (rvf := fun x => some (.int x)) (st := []) (fr := 1) (lo := 22) (mc := 0) (ms := 0) C wc_X12_isShelf wml_X12_276 wst_X12_isShelf dX12_taken_1 (As := [.inl a1]) rfl hf (fun x h' hF => c_X12_isShelf _ _ _ _ (x, h') hF) rfl (Nat.le_of_ble_eq_true rfl) (room_ok hX (Nat.le_of_ble_eq_true rfl) (Nat.le_of_ble_eq_true rfl)) (cell_ok hX (Nat.le_of_ble_eq_true rfl) (Nat.le_of_ble_eq_true rfl)) (fun v2 h1 hf => ?_)
  refine s_jn hf (fun j17 e17 hf => ?_)
  have k17 : ∀ (h3 : AH), j17 h3 = some r → WW X h3 0 0 17 [none, none, none] [] := by
    intro h3 hf
    rw [e17] at hf
    refine s_iconst C dX12_taken_17 (v := (-1 : Int32)) (by decide) ?_
    exact s_ireturn C E dX12_taken_18 hf (Nat.le_of_ble_eq_true rfl) (Nat.le_of_ble_eq_true rfl)
  refine s_if_eq (tgt := 17) C dX12_taken_4 (by decide) hf (fun hf => ?_) (fun hf => ?_)
  · refine s_weak (lv' := [none, none, none]) trivial ?_
    exact k17 _ hf
  · refine s_iload_n C dX12_taken_7 rfl ?_
    refine s_iconst C dX12_taken_8 (v := (0 : Int32)) (by decide) ?_
    refine s_bipush C dX12_taken_9 (v := (7 : Int32)) (by decide) ?_
    refine s_callS (rvf := fun x => some (.int x)) (st := []) (fr := 0) (lo := 0) (mc := 0) (ms := 0) C wc_X12_in wml_X12_195 wst_X12_in dX12_taken_11 (As := [.inl a2, .inl (0 : Int32), .inl (7 : Int32)]) rfl hf (fun x h' hF => c_X12_in _ _ _ _ _ _ (x, h') hF) rfl (Nat.le_of_ble_eq_true rfl) (room_ok hX (Nat.le_of_ble_eq_true rfl) (Nat.le_of_ble_eq_true rfl)) (cell_ok hX (Nat.le_of_ble_eq_true rfl) (Nat.le_of_ble_eq_true rfl)) (fun v5 h4 hf => ?_)
    refine s_if_ne (tgt := 19) C dX12_taken_14 (by decide) hf (fun hf => ?_) (fun hf => ?_)
    · refine s_aload_n C dX12_taken_19 rfl ?_
      refine s_getR C fl_X12_180 dX12_taken_20 hf (fun v6 hf => ?_)
      refine s_iload_n C dX12_taken_23 rfl ?_
      refine s_iaload C dX12_taken_24 hf (fun v7 hf => ?_)
      refine s_iconst C dX12_taken_25 (v := (-1 : Int32)) (by decide) ?_
      refine s_icmp_ne (tgt := 32) C dX12_taken_26 (by decide) hf (fun hf => ?_) (fun hf => ?_)
      · refine s_aload_n C dX12_taken_32 rfl ?_
        refine s_getR C fl_X12_180 dX12_taken_33 hf (fun v8 hf => ?_)
        refine s_iload_n C dX12_taken_36 rfl ?_
        refine s_iaload C dX12_taken_37 hf (fun v9 hf => ?_)
        refine s_jn hf (fun j75 e75 hf => ?_)
        have k75 : ∀ (x10 : Int32) (h11 : AH), j75 x10 h11 = some r → WW X h11 0 0 75 [none, none, none] [.int x10] := by
          intro x10 h11 hf
          rw [e75] at hf
          exact s_ireturn C E dX12_taken_75 hf (Nat.le_of_ble_eq_true rfl) (Nat.le_of_ble_eq_true rfl)
        refine s_jn hf (fun j73 e73 hf => ?_)
        have k73 : ∀ (h12 : AH), j73 h12 = some r → WW X h12 0 0 73 [none, none, none] [] := by
          intro h12 hf
          rw [e73] at hf
          refine s_bipush C dX12_taken_73 (v := (-12 : Int32)) (by decide) ?_
          exact k75 _ _ hf
        refine s_if_lt (tgt := 73) C dX12_taken_38 (by decide) hf (fun hf => ?_) (fun hf => ?_)
        · refine s_weak (lv' := [none, none, none]) trivial ?_
          exact k73 _ hf
        · refine s_aload_n C dX12_taken_41 rfl ?_
          refine s_getR C fl_X12_13 dX12_taken_42 hf (fun v13 hf => ?_)
          refine s_aload_n C dX12_taken_45 rfl ?_
          refine s_getR C fl_X12_180 dX12_taken_46 hf (fun v14 hf => ?_)
          refine s_iload_n C dX12_taken_49 rfl ?_
          refine s_iaload C dX12_taken_50 hf (fun v15 hf => ?_)
          refine s_iaload C dX12_taken_51 hf (fun v16 hf => ?_)
          refine s_iload_n C dX12_taken_52 rfl ?_
          refine s_callS (rvf := fun x => some (.int x)) (st := []) (fr := 1) (lo := 22) (mc := 0) (ms := 0) C wc_X12_isUnder wml_X12_220 wst_X12_isUnder dX12_taken_53 (As := [.inl v16, .inl a2]) rfl hf (fun x h' hF => c_X12_isUnder _ _ _ _ _ (x, h') hF) rfl (Nat.le_of_ble_eq_true rfl) (room_ok hX (Nat.le_of_ble_eq_true rfl) (Nat.le_of_ble_eq_true rfl)) (cell_ok hX (Nat.le_of_ble_eq_true rfl) (Nat.le_of_ble_eq_true rfl)) (fun v18 h17 hf => ?_)
          refine s_if_eq (tgt := 73) C dX12_taken_56 (by decide) hf (fun hf => ?_) (fun hf => ?_)
          · refine s_weak (lv' := [none, none, none]) trivial ?_
            exact k73 _ hf
          · refine s_aload_n C dX12_taken_59 rfl ?_
            refine s_getR C fl_X12_13 dX12_taken_60 hf (fun v19 hf => ?_)
            refine s_aload_n C dX12_taken_63 rfl ?_
            refine s_getR C fl_X12_180 dX12_taken_64 hf (fun v20 hf => ?_)
            refine s_iload_n C dX12_taken_67 rfl ?_
            refine s_iaload C dX12_taken_68 hf (fun v21 hf => ?_)
            refine s_iaload C dX12_taken_69 hf (fun v22 hf => ?_)
            refine s_goto (tgt := 75) C dX12_taken_70 (by decide) ?_
            refine s_weak (lv' := [none, none, none]) trivial ?_
            exact k75 _ _ hf
      · refine s_bipush C dX12_taken_29 (v := (-11 : Int32)) (by decide) ?_
        exact s_ireturn C E dX12_taken_31 hf (Nat.le_of_ble_eq_true rfl) (Nat.le_of_ble_eq_true rfl)
    · refine s_weak (lv' := [none, none, none]) trivial ?_
      exact k17 _ hf
/-- HillBoxesModel.taker(I)I -/
noncomputable def f_X12_taker (o : Option Nat) (a1 : Int32) (h : AH) : Option (Int32 × AH) :=
  rO h [12] o <| cl (f_X12_isBox o a1 h) fun v2 h1 =>
  jn (fun (x3 : Int32) (h4 : AH) =>
    some (x3, h4)) fun j17 =>
  if v2 = 0 then
    j17 (-1 : Int32) h1
  else
    rO h1 [12] o <| cl (f_X12_takerOf o a1 h1) fun v6 h5 =>
    j17 v6 h5
set_option maxRecDepth 100000 in
set_option maxHeartbeats 4000000 in
theorem c_X12_taker (l : Launch) (D : DT) (o : Option Nat) (a1 : Int32) (h : AH) (r : Int32 × AH) (hf : f_X12_taker o a1 h = some r) : CM l D yX12_taker cX12_taker 2 (some .int) 8 179 0 0 [.inr (.inr o), .inl a1] h (some (.int r.1)) r.2 := by
  refine CM.of (by decide) (Nat.le_of_ble_eq_true rfl) (fun X hl C hD hX hnm E => ?_)
  subst hl
  subst hD
  have C : CX X RX12 cX12_taker 2 := C
  show WW X h 0 0 0 [some (rB (xD X).1 o), some (.int a1)] []
  unfold f_X12_taker at hf
  refine s_aload_n C dX12_taker_0 rfl ?_
  refine s_iload_n C dX12_taker_1 rfl ?_
  refine s_callV (rvf := fun x => some (.int x)) (st := []) (fr := 2) (lo := 43) (mc := 0) (ms := 0) C [12] wc_X12_isBox wml_X12_224 wim_X12_isBox wsl_12_X12_isBox dX12_taker_2 (As := [.inl a1]) rfl hf (fun x h' hF => c_X12_isBox _ _ _ _ _ (x, h') hF) rfl (Nat.le_of_ble_eq_true rfl) (room_ok hX (Nat.le_of_ble_eq_true rfl) (Nat.le_of_ble_eq_true rfl)) (cell_ok hX (Nat.le_of_ble_eq_true rfl) (Nat.le_of_ble_eq_true rfl)) (fun v2 h1 hf => ?_)
  refine s_jn hf (fun j17 e17 hf => ?_)
  have k17 : ∀ (x3 : Int32) (h4 : AH), j17 x3 h4 = some r → WW X h4 0 0 17 [none, none] [.int x3] := by
    intro x3 h4 hf
    rw [e17] at hf
    exact s_ireturn C E dX12_taker_17 hf (Nat.le_of_ble_eq_true rfl) (Nat.le_of_ble_eq_true rfl)
  refine s_if_eq (tgt := 16) C dX12_taker_5 (by decide) hf (fun hf => ?_) (fun hf => ?_)
  · refine s_iconst C dX12_taker_16 (v := (-1 : Int32)) (by decide) ?_
    refine s_weak (lv' := [none, none]) trivial ?_
    exact k17 _ _ hf
  · refine s_aload_n C dX12_taker_8 rfl ?_
    refine s_iload_n C dX12_taker_9 rfl ?_
    refine s_callV (rvf := fun x => some (.int x)) (st := []) (fr := 7) (lo := 153) (mc := 0) (ms := 0) C [12] wc_X12_takerOf wml_X12_530 wim_X12_takerOf wsl_12_X12_takerOf dX12_taker_10 (As := [.inl a1]) rfl hf (fun x h' hF => c_X12_takerOf _ _ _ _ _ (x, h') hF) rfl (Nat.le_of_ble_eq_true rfl) (room_ok hX (Nat.le_of_ble_eq_true rfl) (Nat.le_of_ble_eq_true rfl)) (cell_ok hX (Nat.le_of_ble_eq_true rfl) (Nat.le_of_ble_eq_true rfl)) (fun v6 h5 hf => ?_)
    refine s_goto (tgt := 17) C dX12_taker_13 (by decide) ?_
    refine s_weak (lv' := [none, none]) trivial ?_
    exact k17 _ _ hf
/-- HillBoxesModel.tell(III)I -/
noncomputable def f_X12_tell (o : Option Nat) (a1 : Int32) (a2 : Int32) (a3 : Int32) (h : AH) : Option (Int32 × AH) :=
  rO h [12] o <| cl (f_X12_isThing o a1 h) fun v2 h1 =>
  jn (fun (h3 : AH) =>
    some ((-1 : Int32), h3)) fun j34 =>
  if v2 = 0 then
    j34 h1
  else
    rO h1 [12] o <| cl (f_X12_isLog o a2 h1) fun v5 h4 =>
    if v5 = 0 then
      j34 h4
    else
      fR h4 [12] o 21 fun v6 =>
      aI h4 23 v6 a2 fun v7 =>
      if v7 = 0 then
        j34 h4
      else
        cl (f_X12_in a3 (0 : Int32) (1 : Int32) h4) fun v9 h8 =>
        if v9 = 0 then
          j34 h8
        else
          fR h8 [12] o 59 fun v10 =>
          aI h8 20 v10 a1 fun v11 =>
          if v11 = (12 : Int32) then
            some ((-3 : Int32), h8)
          else
            fR h8 [12] o 60 fun v12 =>
            fR h8 [12] o 59 fun v13 =>
            aI h8 20 v13 a1 fun v14 =>
            bI h8 21 v12 (((12 : Int32) * a1) + v14) (a2.toInt16.toInt32.toInt16.toInt32) fun h15 =>
            fR h15 [12] o 61 fun v16 =>
            fR h15 [12] o 59 fun v17 =>
            aI h15 20 v17 a1 fun v18 =>
            jn (fun (x19 : Int32) =>
              bI h15 23 v16 (((12 : Int32) * a1) + v18) (x19 &&& 1) fun h20 =>
              fR h20 [12] o 59 fun v21 =>
              aI h20 20 v21 a1 fun v22 =>
              bI h20 20 v21 a1 (v22 + (1 : Int32)) fun h23 =>
              fR h23 [12] o 59 fun v24 =>
              aI h23 20 v24 a1 fun v25 =>
              some (v25, h23)) fun j93 =>
            if a3 = (1 : Int32) then
              j93 (1 : Int32)
            else
              j93 (0 : Int32)
set_option maxRecDepth 100000 in
set_option maxHeartbeats 4000000 in
theorem c_X12_tell (l : Launch) (D : DT) (o : Option Nat) (a1 : Int32) (a2 : Int32) (a3 : Int32) (h : AH) (r : Int32 × AH) (hf : f_X12_tell o a1 a2 a3 h = some r) : CM l D yX12_tell cX12_tell 4 (some .int) 3 64 0 0 [.inr (.inr o), .inl a1, .inl a2, .inl a3] h (some (.int r.1)) r.2 := by
  refine CM.of (by decide) (Nat.le_of_ble_eq_true rfl) (fun X hl C hD hX hnm E => ?_)
  subst hl
  subst hD
  have C : CX X RX12 cX12_tell 4 := C
  show WW X h 0 0 0 [some (rB (xD X).1 o), some (.int a1), some (.int a2), some (.int a3)] []
  unfold f_X12_tell at hf
  refine s_aload_n C dX12_tell_0 rfl ?_
  refine s_iload_n C dX12_tell_1 rfl ?_
  refine s_callV (rvf := fun x => some (.int x)) (st := []) (fr := 2) (lo := 43) (mc := 0) (ms := 0) C [12] wc_X12_isThing wml_X12_524 wim_X12_isThing wsl_12_X12_isThing dX12_tell_2 (As := [.inl a1]) rfl hf (fun x h' hF => c_X12_isThing _ _ _ _ _ (x, h') hF) rfl (Nat.le_of_ble_eq_true rfl) (room_ok hX (Nat.le_of_ble_eq_true rfl) (Nat.le_of_ble_eq_true rfl)) (cell_ok hX (Nat.le_of_ble_eq_true rfl) (Nat.le_of_ble_eq_true rfl)) (fun v2 h1 hf => ?_)
  refine s_jn hf (fun j34 e34 hf => ?_)
  have k34 : ∀ (h3 : AH), j34 h3 = some r → WW X h3 0 0 34 [none, none, none, none] [] := by
    intro h3 hf
    rw [e34] at hf
    refine s_iconst C dX12_tell_34 (v := (-1 : Int32)) (by decide) ?_
    exact s_ireturn C E dX12_tell_35 hf (Nat.le_of_ble_eq_true rfl) (Nat.le_of_ble_eq_true rfl)
  refine s_if_eq (tgt := 34) C dX12_tell_5 (by decide) hf (fun hf => ?_) (fun hf => ?_)
  · refine s_weak (lv' := [none, none, none, none]) trivial ?_
    exact k34 _ hf
  · refine s_aload_n C dX12_tell_8 rfl ?_
    refine s_iload_n C dX12_tell_9 rfl ?_
    refine s_callV (rvf := fun x => some (.int x)) (st := []) (fr := 1) (lo := 22) (mc := 0) (ms := 0) C [12] wc_X12_isLog wml_X12_318 wim_X12_isLog wsl_12_X12_isLog dX12_tell_10 (As := [.inl a2]) rfl hf (fun x h' hF => c_X12_isLog _ _ _ _ _ (x, h') hF) rfl (Nat.le_of_ble_eq_true rfl) (room_ok hX (Nat.le_of_ble_eq_true rfl) (Nat.le_of_ble_eq_true rfl)) (cell_ok hX (Nat.le_of_ble_eq_true rfl) (Nat.le_of_ble_eq_true rfl)) (fun v5 h4 hf => ?_)
    refine s_if_eq (tgt := 34) C dX12_tell_13 (by decide) hf (fun hf => ?_) (fun hf => ?_)
    · refine s_weak (lv' := [none, none, none, none]) trivial ?_
      exact k34 _ hf
    · refine s_aload_n C dX12_tell_16 rfl ?_
      refine s_getR C fl_X12_55 dX12_tell_17 hf (fun v6 hf => ?_)
      refine s_iload_n C dX12_tell_20 rfl ?_
      refine s_zaload C dX12_tell_21 hf (fun v7 hf => ?_)
      refine s_if_eq (tgt := 34) C dX12_tell_22 (by decide) hf (fun hf => ?_) (fun hf => ?_)
      · refine s_weak (lv' := [none, none, none, none]) trivial ?_
        exact k34 _ hf
      · refine s_iload_n C dX12_tell_25 rfl ?_
        refine s_iconst C dX12_tell_26 (v := (0 : Int32)) (by decide) ?_
        refine s_iconst C dX12_tell_27 (v := (1 : Int32)) (by decide) ?_
        refine s_callS (rvf := fun x => some (.int x)) (st := []) (fr := 0) (lo := 0) (mc := 0) (ms := 0) C wc_X12_in wml_X12_195 wst_X12_in dX12_tell_28 (As := [.inl a3, .inl (0 : Int32), .inl (1 : Int32)]) rfl hf (fun x h' hF => c_X12_in _ _ _ _ _ _ (x, h') hF) rfl (Nat.le_of_ble_eq_true rfl) (room_ok hX (Nat.le_of_ble_eq_true rfl) (Nat.le_of_ble_eq_true rfl)) (cell_ok hX (Nat.le_of_ble_eq_true rfl) (Nat.le_of_ble_eq_true rfl)) (fun v9 h8 hf => ?_)
        refine s_if_ne (tgt := 36) C dX12_tell_31 (by decide) hf (fun hf => ?_) (fun hf => ?_)
        · refine s_aload_n C dX12_tell_36 rfl ?_
          refine s_getR C fl_X12_121 dX12_tell_37 hf (fun v10 hf => ?_)
          refine s_iload_n C dX12_tell_40 rfl ?_
          refine s_iaload C dX12_tell_41 hf (fun v11 hf => ?_)
          refine s_bipush C dX12_tell_42 (v := (12 : Int32)) (by decide) ?_
          refine s_icmp_ne (tgt := 50) C dX12_tell_44 (by decide) hf (fun hf => ?_) (fun hf => ?_)
          · refine s_aload_n C dX12_tell_50 rfl ?_
            refine s_getR C fl_X12_124 dX12_tell_51 hf (fun v12 hf => ?_)
            refine s_bipush C dX12_tell_54 (v := (12 : Int32)) (by decide) ?_
            refine s_iload_n C dX12_tell_56 rfl ?_
            refine s_imul C dX12_tell_57 ?_
            refine s_aload_n C dX12_tell_58 rfl ?_
            refine s_getR C fl_X12_121 dX12_tell_59 hf (fun v13 hf => ?_)
            refine s_iload_n C dX12_tell_62 rfl ?_
            refine s_iaload C dX12_tell_63 hf (fun v14 hf => ?_)
            refine s_iadd C dX12_tell_64 ?_
            refine s_iload_n C dX12_tell_65 rfl ?_
            refine s_i2s C dX12_tell_66 ?_
            refine s_sastore C dX12_tell_67 hf (fun h15 hf => ?_)
            refine s_aload_n C dX12_tell_68 rfl ?_
            refine s_getR C fl_X12_127 dX12_tell_69 hf (fun v16 hf => ?_)
            refine s_bipush C dX12_tell_72 (v := (12 : Int32)) (by decide) ?_
            refine s_iload_n C dX12_tell_74 rfl ?_
            refine s_imul C dX12_tell_75 ?_
            refine s_aload_n C dX12_tell_76 rfl ?_
            refine s_getR C fl_X12_121 dX12_tell_77 hf (fun v17 hf => ?_)
            refine s_iload_n C dX12_tell_80 rfl ?_
            refine s_iaload C dX12_tell_81 hf (fun v18 hf => ?_)
            refine s_iadd C dX12_tell_82 ?_
            refine s_iload_n C dX12_tell_83 rfl ?_
            refine s_iconst C dX12_tell_84 (v := (1 : Int32)) (by decide) ?_
            refine s_jn hf (fun j93 e93 hf => ?_)
            have k93 : ∀ (x19 : Int32), j93 x19 = some r → WW X h15 0 0 93 [some (rB (xD X).1 o), some (.int a1), none, none] [.int x19, .int (((12 : Int32) * a1) + v18), rB (xD X).1 v16] := by
              intro x19 hf
              rw [e93] at hf
              refine s_zastore C dX12_tell_93 hf (fun h20 hf => ?_)
              refine s_aload_n C dX12_tell_94 rfl ?_
              refine s_getR C fl_X12_121 dX12_tell_95 hf (fun v21 hf => ?_)
              refine s_iload_n C dX12_tell_98 rfl ?_
              refine s_dup2 C dX12_tell_99 c1_i c1_r ?_
              refine s_iaload C dX12_tell_100 hf (fun v22 hf => ?_)
              refine s_iconst C dX12_tell_101 (v := (1 : Int32)) (by decide) ?_
              refine s_iadd C dX12_tell_102 ?_
              refine s_iastore C dX12_tell_103 hf (fun h23 hf => ?_)
              refine s_aload_n C dX12_tell_104 rfl ?_
              refine s_getR C fl_X12_121 dX12_tell_105 hf (fun v24 hf => ?_)
              refine s_iload_n C dX12_tell_108 rfl ?_
              refine s_iaload C dX12_tell_109 hf (fun v25 hf => ?_)
              exact s_ireturn C E dX12_tell_110 hf (Nat.le_of_ble_eq_true rfl) (Nat.le_of_ble_eq_true rfl)
            refine s_icmp_ne (tgt := 92) C dX12_tell_85 (by decide) hf (fun hf => ?_) (fun hf => ?_)
            · refine s_iconst C dX12_tell_92 (v := (0 : Int32)) (by decide) ?_
              refine s_weak (lv' := [some (rB (xD X).1 o), some (.int a1), none, none]) ⟨rfl, ⟨rfl, trivial⟩⟩ ?_
              exact k93 _ hf
            · refine s_iconst C dX12_tell_88 (v := (1 : Int32)) (by decide) ?_
              refine s_goto (tgt := 93) C dX12_tell_89 (by decide) ?_
              refine s_weak (lv' := [some (rB (xD X).1 o), some (.int a1), none, none]) ⟨rfl, ⟨rfl, trivial⟩⟩ ?_
              exact k93 _ hf
          · refine s_bipush C dX12_tell_47 (v := (-3 : Int32)) (by decide) ?_
            exact s_ireturn C E dX12_tell_49 hf (Nat.le_of_ble_eq_true rfl) (Nat.le_of_ble_eq_true rfl)
        · refine s_weak (lv' := [none, none, none, none]) trivial ?_
          exact k34 _ hf
/-- HillBoxesModel.toPut(I)I -/
noncomputable def f_X12_toPut (o : Option Nat) (a1 : Int32) (h : AH) : Option (Int32 × AH) :=
  if (-1 : Int32) ≤ a1 then
    lp (fun _ _ _ => none) (fun (L11 : Int32 → Int32 → AH → Option (Int32 × AH)) (x1 : Int32) (x2 : Int32) (h3 : AH) =>
      fI h3 [12] o 3 fun v4 =>
      if v4 ≤ x2 then
        jn (fun (x5 : Int32) =>
          some (x5, h3)) fun j63 =>
        if 0 ≤ a1 then
          j63 (-1 : Int32)
        else
          j63 x1
      else
        rO h3 [12] o <| cl (f_X12_isOut o x2 h3) fun v7 h6 =>
        jn (fun (x8 : Int32) (h9 : AH) =>
          L11 x8 (x2 + 1) h9) fun j48 =>
        if v7 = 0 then
          j48 x1 h6
        else
          rO h6 [12] o <| cl (f_X12_downOf o x2 h6) fun v11 h10 =>
          if v11 = 0 then
            j48 x1 h10
          else
            if x1 = a1 then
              some (x2, h10)
            else
              j48 (x1 + 1) h10) lpN (0 : Int32) (0 : Int32) h
  else
    some ((-1 : Int32), h)
set_option maxRecDepth 100000 in
set_option maxHeartbeats 4000000 in
theorem c_X12_toPut (l : Launch) (D : DT) (o : Option Nat) (a1 : Int32) (h : AH) (r : Int32 × AH) (hf : f_X12_toPut o a1 h = some r) : CM l D yX12_toPut cX12_toPut 4 (some .int) 5 118 0 0 [.inr (.inr o), .inl a1] h (some (.int r.1)) r.2 := by
  refine CM.of (by decide) (Nat.le_of_ble_eq_true rfl) (fun X hl C hD hX hnm E => ?_)
  subst hl
  subst hD
  have C : CX X RX12 cX12_toPut 4 := C
  show WW X h 0 0 0 [some (rB (xD X).1 o), some (.int a1), none, none] []
  unfold f_X12_toPut at hf
  refine s_iload_n C dX12_toPut_0 rfl ?_
  refine s_iconst C dX12_toPut_1 (v := (-1 : Int32)) (by decide) ?_
  refine s_icmp_ge (tgt := 7) C dX12_toPut_2 (by decide) hf (fun hf => ?_) (fun hf => ?_)
  · refine s_iconst C dX12_toPut_7 (v := (0 : Int32)) (by decide) ?_
    refine s_istore_n C dX12_toPut_8 (by decide) (nc_i rfl) (lv' := [some (rB (xD X).1 o), some (.int a1), some (.int (0 : Int32)), none]) rfl ?_
    refine s_iconst C dX12_toPut_9 (v := (0 : Int32)) (by decide) ?_
    refine s_istore_n C dX12_toPut_10 (by decide) (nc_i rfl) (lv' := [some (rB (xD X).1 o), some (.int a1), some (.int (0 : Int32)), some (.int (0 : Int32))]) rfl ?_
    refine s_lp3 hf (fun G11 z11 q11 hf => ?_)
    have k11 : ∀ (n : Nat) (x1 : Int32) (x2 : Int32) (h3 : AH), G11 n x1 x2 h3 = some r → WW X h3 0 0 11 [some (rB (xD X).1 o), some (.int a1), some (.int x1), some (.int x2)] [] := by
      intro n
      induction n with
      | zero =>
        intro x1 x2 h3 hf
        rw [z11] at hf
        cases hf
      | succ n ih11 =>
        intro x1 x2 h3 hf
        have hf := (q11 n x1 x2 h3).symm.trans hf
        refine s_iload_n C dX12_toPut_11 rfl ?_
        refine s_aload_n C dX12_toPut_12 rfl ?_
        refine s_getI C fl_X12_214 dX12_toPut_13 hf (fun v4 hf => ?_)
        refine s_icmp_ge (tgt := 54) C dX12_toPut_16 (by decide) hf (fun hf => ?_) (fun hf => ?_)
        · refine s_iload_n C dX12_toPut_54 rfl ?_
          refine s_jn hf (fun j63 e63 hf => ?_)
          have k63 : ∀ (x5 : Int32), j63 x5 = some r → WW X h3 0 0 63 [none, none, none, none] [.int x5] := by
            intro x5 hf
            rw [e63] at hf
            exact s_ireturn C E dX12_toPut_63 hf (Nat.le_of_ble_eq_true rfl) (Nat.le_of_ble_eq_true rfl)
          refine s_if_ge (tgt := 62) C dX12_toPut_55 (by decide) hf (fun hf => ?_) (fun hf => ?_)
          · refine s_iconst C dX12_toPut_62 (v := (-1 : Int32)) (by decide) ?_
            refine s_weak (lv' := [none, none, none, none]) trivial ?_
            exact k63 _ hf
          · refine s_iload_n C dX12_toPut_58 rfl ?_
            refine s_goto (tgt := 63) C dX12_toPut_59 (by decide) ?_
            refine s_weak (lv' := [none, none, none, none]) trivial ?_
            exact k63 _ hf
        · refine s_aload_n C dX12_toPut_19 rfl ?_
          refine s_iload_n C dX12_toPut_20 rfl ?_
          refine s_callV (rvf := fun x => some (.int x)) (st := []) (fr := 3) (lo := 64) (mc := 0) (ms := 0) C [12] wc_X12_isOut wml_X12_255 wim_X12_isOut wsl_12_X12_isOut dX12_toPut_21 (As := [.inl x2]) rfl hf (fun x h' hF => c_X12_isOut _ _ _ _ _ (x, h') hF) rfl (Nat.le_of_ble_eq_true rfl) (room_ok hX (Nat.le_of_ble_eq_true rfl) (Nat.le_of_ble_eq_true rfl)) (cell_ok hX (Nat.le_of_ble_eq_true rfl) (Nat.le_of_ble_eq_true rfl)) (fun v7 h6 hf => ?_)
          refine s_jn hf (fun j48 e48 hf => ?_)
          have k48 : ∀ (x8 : Int32) (h9 : AH), j48 x8 h9 = some r → WW X h9 0 0 48 [some (rB (xD X).1 o), some (.int a1), some (.int x8), some (.int x2)] [] := by
            intro x8 h9 hf
            rw [e48] at hf
            refine s_iinc C dX12_toPut_48 (v := (x2 + 1)) rfl rfl (by decide) (nc_i rfl) (lv' := [some (rB (xD X).1 o), some (.int a1), some (.int x8), some (.int (x2 + 1))]) rfl ?_
            refine s_goto (tgt := 11) C dX12_toPut_51 (by decide) ?_
            exact ih11 _ _ _ hf
          refine s_if_eq (tgt := 48) C dX12_toPut_24 (by decide) hf (fun hf => ?_) (fun hf => ?_)
          · exact k48 _ _ hf
          · refine s_aload_n C dX12_toPut_27 rfl ?_
            refine s_iload_n C dX12_toPut_28 rfl ?_
            refine s_callV (rvf := fun x => some (.int x)) (st := []) (fr := 4) (lo := 97) (mc := 0) (ms := 0) C [12] wc_X12_downOf wml_X12_448 wim_X12_downOf wsl_12_X12_downOf dX12_toPut_29 (As := [.inl x2]) rfl hf (fun x h' hF => c_X12_downOf _ _ _ _ _ (x, h') hF) rfl (Nat.le_of_ble_eq_true rfl) (room_ok hX (Nat.le_of_ble_eq_true rfl) (Nat.le_of_ble_eq_true rfl)) (cell_ok hX (Nat.le_of_ble_eq_true rfl) (Nat.le_of_ble_eq_true rfl)) (fun v11 h10 hf => ?_)
            refine s_if_ne (tgt := 38) C dX12_toPut_32 (by decide) hf (fun hf => ?_) (fun hf => ?_)
            · refine s_iload_n C dX12_toPut_38 rfl ?_
              refine s_iload_n C dX12_toPut_39 rfl ?_
              refine s_icmp_ne (tgt := 45) C dX12_toPut_40 (by decide) hf (fun hf => ?_) (fun hf => ?_)
              · refine s_iinc C dX12_toPut_45 (v := (x1 + 1)) rfl rfl (by decide) (nc_i rfl) (lv' := [some (rB (xD X).1 o), some (.int a1), some (.int (x1 + 1)), some (.int x2)]) rfl ?_
                exact k48 _ _ hf
              · refine s_iload_n C dX12_toPut_43 rfl ?_
                exact s_ireturn C E dX12_toPut_44 hf (Nat.le_of_ble_eq_true rfl) (Nat.le_of_ble_eq_true rfl)
            · refine s_goto (tgt := 48) C dX12_toPut_35 (by decide) ?_
              exact k48 _ _ hf
    exact k11 lpN _ _ _ hf
  · refine s_iconst C dX12_toPut_5 (v := (-1 : Int32)) (by decide) ?_
    exact s_ireturn C E dX12_toPut_6 hf (Nat.le_of_ble_eq_true rfl) (Nat.le_of_ble_eq_true rfl)
/-- HillBoxesModel.trace(I)I -/
noncomputable def f_X12_trace (o : Option Nat) (a1 : Int32) (h : AH) : Option (Int32 × AH) :=
  jn (fun (x1 : Int32) =>
    some (x1, h)) fun j28 =>
  jn (
    j28 (-1 : Int32)) fun j27 =>
  if a1 < 0 then
    j27
  else
    fI h [12] o 84 fun v2 =>
    if v2 ≤ a1 then
      j27
    else
      if (24 : Int32) ≤ a1 then
        j27
      else
        fR h [12] o 85 fun v3 =>
        aI h 20 v3 a1 fun v4 =>
        j28 v4
set_option maxRecDepth 100000 in
set_option maxHeartbeats 4000000 in
theorem c_X12_trace (l : Launch) (D : DT) (o : Option Nat) (a1 : Int32) (h : AH) (r : Int32 × AH) (hf : f_X12_trace o a1 h = some r) : CM l D yX12_trace cX12_trace 2 (some .int) 0 0 0 0 [.inr (.inr o), .inl a1] h (some (.int r.1)) r.2 := by
  refine CM.of (by decide) (Nat.le_of_ble_eq_true rfl) (fun X hl C hD hX hnm E => ?_)
  subst hl
  subst hD
  have C : CX X RX12 cX12_trace 2 := C
  show WW X h 0 0 0 [some (rB (xD X).1 o), some (.int a1)] []
  unfold f_X12_trace at hf
  refine s_iload_n C dX12_trace_0 rfl ?_
  refine s_jn hf (fun j28 e28 hf => ?_)
  have k28 : ∀ (x1 : Int32), j28 x1 = some r → WW X h 0 0 28 [none, none] [.int x1] := by
    intro x1 hf
    rw [e28] at hf
    exact s_ireturn C E dX12_trace_28 hf (Nat.le_of_ble_eq_true rfl) (Nat.le_of_ble_eq_true rfl)
  refine s_jn hf (fun j27 e27 hf => ?_)
  have k27 : j27  = some r → WW X h 0 0 27 [none, none] [] := by
    intro  hf
    rw [e27] at hf
    refine s_iconst C dX12_trace_27 (v := (-1 : Int32)) (by decide) ?_
    exact k28 _ hf
  refine s_if_lt (tgt := 27) C dX12_trace_1 (by decide) hf (fun hf => ?_) (fun hf => ?_)
  · refine s_weak (lv' := [none, none]) trivial ?_
    exact k27 hf
  · refine s_iload_n C dX12_trace_4 rfl ?_
    refine s_aload_n C dX12_trace_5 rfl ?_
    refine s_getI C fl_X12_586 dX12_trace_6 hf (fun v2 hf => ?_)
    refine s_icmp_ge (tgt := 27) C dX12_trace_9 (by decide) hf (fun hf => ?_) (fun hf => ?_)
    · refine s_weak (lv' := [none, none]) trivial ?_
      exact k27 hf
    · refine s_iload_n C dX12_trace_12 rfl ?_
      refine s_bipush C dX12_trace_13 (v := (24 : Int32)) (by decide) ?_
      refine s_icmp_ge (tgt := 27) C dX12_trace_15 (by decide) hf (fun hf => ?_) (fun hf => ?_)
      · refine s_weak (lv' := [none, none]) trivial ?_
        exact k27 hf
      · refine s_aload_n C dX12_trace_18 rfl ?_
        refine s_getR C fl_X12_177 dX12_trace_19 hf (fun v3 hf => ?_)
        refine s_iload_n C dX12_trace_22 rfl ?_
        refine s_iaload C dX12_trace_23 hf (fun v4 hf => ?_)
        refine s_goto (tgt := 28) C dX12_trace_24 (by decide) ?_
        refine s_weak (lv' := [none, none]) trivial ?_
        exact k28 _ hf
/-- HillBoxesModel.walkOn(IIIII)V, one turn -/
noncomputable def fb_X12_walkOn (g : Nat → Option Nat → Int32 → Int32 → Int32 → Int32 → Int32 → AH → Option (Unit × AH)) (o : Option Nat) (a1 : Int32) (a2 : Int32) (a3 : Int32) (a4 : Int32) (a5 : Int32) (h : AH) : Option (Unit × AH) :=
  jn (fun (h1 : AH) =>
    fI h1 [12] o 78 fun v2 =>
    fI h1 [12] o 79 fun v3 =>
    if (a4 - v2) ≤ v3 then
      lp (fun _ _ => none) (fun (L122 : Int32 → AH → Option (Unit × AH)) (x4 : Int32) (h5 : AH) =>
        fI h5 [12] o 65 fun v6 =>
        if v6 ≤ x4 then
          some ((), h5)
        else
          jn (fun (h7 : AH) =>
            L122 (x4 + 1) h7) fun j195 =>
          if ((a2 >>> (x4 &&& 31)) &&& (1 : Int32)) = (1 : Int32) then
            j195 h5
          else
            fR h5 [12] o 69 fun v8 =>
            bI h5 20 v8 a1 x4 fun h9 =>
            fR h9 [12] o 66 fun v10 =>
            aI h9 20 v10 x4 fun v11 =>
            rO h9 [12] o <| cl (f_X12_liesNow o v11 h9) fun v13 h12 =>
            rO h12 [12] o <| cl (f_X12_hourBehind o a3 a4 x4 h12) fun v15 h14 =>
            fR h14 [12] o 67 fun v16 =>
            aI h14 20 v16 x4 fun v17 =>
            rO h14 [12] o <| cl (g 0 o (a1 + (1 : Int32)) (a2 ||| ((1 : Int32) <<< (x4 &&& 31))) v13 v15 (a5 + v17) h14) fun _ h18 =>
            j195 h18) lpN (0 : Int32) h1
    else
      some ((), h1)) fun j104 =>
  if a1 ≤ 0 then
    j104 h
  else
    fI h [12] o 77 fun v19 =>
    cl (f_X12_hoursFor a3 v19 h) fun v21 h20 =>
    fI h20 [12] o 78 fun v22 =>
    fI h20 [12] o 79 fun v23 =>
    if v23 < ((a4 + v21) - v22) then
      j104 h20
    else
      fI h20 [12] o 71 fun v24 =>
      jn (
        pI h20 [12] o 71 a5 fun h25 =>
        pI h25 [12] o 72 ((a4 + v21) - v22) fun h26 =>
        pI h26 [12] o 73 a1 fun h27 =>
        lp (fun _ _ => none) (fun (L78 : Int32 → AH → Option (Unit × AH)) (x28 : Int32) (h29 : AH) =>
          if a1 ≤ x28 then
            j104 h29
          else
            fR h29 [12] o 70 fun v30 =>
            fR h29 [12] o 69 fun v31 =>
            aI h29 20 v31 x28 fun v32 =>
            bI h29 20 v30 x28 v32 fun h33 =>
            L78 (x28 + 1) h33) lpN (0 : Int32) h27) fun j58 =>
      if v24 < a5 then
        j58
      else
        fI h20 [12] o 71 fun v34 =>
        if a5 = v34 then
          fI h20 [12] o 72 fun v35 =>
          if v35 ≤ ((a4 + v21) - v22) then
            j104 h20
          else
            j58
        else
          j104 h20
noncomputable def G_X12_walkOn : Nat → Nat → Option Nat → Int32 → Int32 → Int32 → Int32 → Int32 → AH → Option (Unit × AH)
  | 0 => fun _ _ _ _ _ _ _ _ => none
  | n + 1 => fun t p0 p1 p2 p3 p4 p5 h => fb_X12_walkOn (G_X12_walkOn n) p0 p1 p2 p3 p4 p5 h
theorem eq_G_X12_walkOn (n t : Nat) (p0 : Option Nat) (p1 : Int32) (p2 : Int32) (p3 : Int32) (p4 : Int32) (p5 : Int32) (h : AH) : G_X12_walkOn (n + 1) t p0 p1 p2 p3 p4 p5 h = (fb_X12_walkOn (G_X12_walkOn n) p0 p1 p2 p3 p4 p5 h) := by first | rfl | rw [G_X12_walkOn]
noncomputable def f_X12_walkOn (o : Option Nat) (a1 : Int32) (a2 : Int32) (a3 : Int32) (a4 : Int32) (a5 : Int32) (h : AH) : Option (Unit × AH) := G_X12_walkOn (opq 100) 0 o a1 a2 a3 a4 a5 h
def PG_X12_walkOn (l : Launch) (D : DT) (n : Nat) : Prop := (∀ (p0 : Option Nat) (p1 : Int32) (p2 : Int32) (p3 : Int32) (p4 : Int32) (p5 : Int32) (h : AH) (r : Unit × AH), G_X12_walkOn n 0 p0 p1 p2 p3 p4 p5 h = some r → CM l D yX12_walkOn cX12_walkOn 8 none (4 + n) (87 + 60 * n) 0 0 [.inr (.inr p0), .inl p1, .inl p2, .inl p3, .inl p4, .inl p5] h none r.2)
set_option maxRecDepth 100000 in
set_option maxHeartbeats 4000000 in
theorem cs_X12_walkOn (l : Launch) (D : DT) (nS : Nat) (ih : PG_X12_walkOn l D nS) : ∀ (p0 : Option Nat) (p1 : Int32) (p2 : Int32) (p3 : Int32) (p4 : Int32) (p5 : Int32) (h : AH) (r : Unit × AH), G_X12_walkOn (nS + 1) 0 p0 p1 p2 p3 p4 p5 h = some r → CM l D yX12_walkOn cX12_walkOn 8 none (4 + (nS + 1)) (87 + 60 * (nS + 1)) 0 0 [.inr (.inr p0), .inl p1, .inl p2, .inl p3, .inl p4, .inl p5] h none r.2 := by
  unfold PG_X12_walkOn at ih
  intro o a1 a2 a3 a4 a5 h r hf
  rw [eq_G_X12_walkOn] at hf
  have hf : fb_X12_walkOn (G_X12_walkOn nS) o a1 a2 a3 a4 a5 h = some r := hf
  refine CM.of (by decide) (Nat.le_of_ble_eq_true rfl) (fun X hl C hD hX hnm E => ?_)
  subst hl
  subst hD
  have C : CX X RX12 cX12_walkOn 8 := C
  show WW X h 0 0 0 [some (rB (xD X).1 o), some (.int a1), some (.int a2), some (.int a3), some (.int a4), some (.int a5), none, none] []
  unfold fb_X12_walkOn at hf
  refine s_iload_n C dX12_walkOn_0 rfl ?_
  refine s_jn hf (fun j104 e104 hf => ?_)
  have k104 : ∀ (h1 : AH), j104 h1 = some r → WW X h1 0 0 104 [some (rB (xD X).1 o), some (.int a1), some (.int a2), some (.int a3), some (.int a4), some (.int a5), none, none] [] := by
    intro h1 hf
    rw [e104] at hf
    refine s_iload C dX12_walkOn_104 rfl ?_
    refine s_aload_n C dX12_walkOn_106 rfl ?_
    refine s_getI C fl_X12_542 dX12_walkOn_107 hf (fun v2 hf => ?_)
    refine s_isub C dX12_walkOn_110 ?_
    refine s_aload_n C dX12_walkOn_111 rfl ?_
    refine s_getI C fl_X12_545 dX12_walkOn_112 hf (fun v3 hf => ?_)
    refine s_icmp_le (tgt := 119) C dX12_walkOn_115 (by decide) hf (fun hf => ?_) (fun hf => ?_)
    · refine s_iconst C dX12_walkOn_119 (v := (0 : Int32)) (by decide) ?_
      refine s_istore C dX12_walkOn_120 (by decide) (nc_i rfl) (lv' := [some (rB (xD X).1 o), some (.int a1), some (.int a2), some (.int a3), some (.int a4), some (.int a5), some (.int (0 : Int32)), none]) rfl ?_
      refine s_lp2 hf (fun G122 z122 q122 hf => ?_)
      have k122 : ∀ (n : Nat) (x4 : Int32) (h5 : AH), G122 n x4 h5 = some r → WW X h5 0 0 122 [some (rB (xD X).1 o), some (.int a1), some (.int a2), some (.int a3), some (.int a4), some (.int a5), some (.int x4), none] [] := by
        intro n
        induction n with
        | zero =>
          intro x4 h5 hf
          rw [z122] at hf
          cases hf
        | succ n ih122 =>
          intro x4 h5 hf
          have hf := (q122 n x4 h5).symm.trans hf
          refine s_iload C dX12_walkOn_122 rfl ?_
          refine s_aload_n C dX12_walkOn_124 rfl ?_
          refine s_getI C fl_X12_533 dX12_walkOn_125 hf (fun v6 hf => ?_)
          refine s_icmp_ge (tgt := 201) C dX12_walkOn_128 (by decide) hf (fun hf => ?_) (fun hf => ?_)
          · exact s_return C E dX12_walkOn_201 hf (Nat.le_of_ble_eq_true rfl) (Nat.le_of_ble_eq_true rfl)
          · refine s_iload_n C dX12_walkOn_131 rfl ?_
            refine s_iload C dX12_walkOn_132 rfl ?_
            refine s_ishr C dX12_walkOn_134 ?_
            refine s_iconst C dX12_walkOn_135 (v := (1 : Int32)) (by decide) ?_
            refine s_iand C dX12_walkOn_136 ?_
            refine s_iconst C dX12_walkOn_137 (v := (1 : Int32)) (by decide) ?_
            refine s_jn hf (fun j195 e195 hf => ?_)
            have k195 : ∀ (h7 : AH), j195 h7 = some r → WW X h7 0 0 195 [some (rB (xD X).1 o), some (.int a1), some (.int a2), some (.int a3), some (.int a4), some (.int a5), some (.int x4), none] [] := by
              intro h7 hf
              rw [e195] at hf
              refine s_iinc C dX12_walkOn_195 (v := (x4 + 1)) rfl rfl (by decide) (nc_i rfl) (lv' := [some (rB (xD X).1 o), some (.int a1), some (.int a2), some (.int a3), some (.int a4), some (.int a5), some (.int (x4 + 1)), none]) rfl ?_
              refine s_goto (tgt := 122) C dX12_walkOn_198 (by decide) ?_
              exact ih122 _ _ hf
            refine s_icmp_ne (tgt := 144) C dX12_walkOn_138 (by decide) hf (fun hf => ?_) (fun hf => ?_)
            · refine s_aload_n C dX12_walkOn_144 rfl ?_
              refine s_getR C fl_X12_148 dX12_walkOn_145 hf (fun v8 hf => ?_)
              refine s_iload_n C dX12_walkOn_148 rfl ?_
              refine s_iload C dX12_walkOn_149 rfl ?_
              refine s_iastore C dX12_walkOn_151 hf (fun h9 hf => ?_)
              refine s_aload_n C dX12_walkOn_152 rfl ?_
              refine s_iload_n C dX12_walkOn_153 rfl ?_
              refine s_iconst C dX12_walkOn_154 (v := (1 : Int32)) (by decide) ?_
              refine s_iadd C dX12_walkOn_155 ?_
              refine s_iload_n C dX12_walkOn_156 rfl ?_
              refine s_iconst C dX12_walkOn_157 (v := (1 : Int32)) (by decide) ?_
              refine s_iload C dX12_walkOn_158 rfl ?_
              refine s_ishl C dX12_walkOn_160 ?_
              refine s_ior C dX12_walkOn_161 ?_
              refine s_aload_n C dX12_walkOn_162 rfl ?_
              refine s_aload_n C dX12_walkOn_163 rfl ?_
              refine s_getR C fl_X12_139 dX12_walkOn_164 hf (fun v10 hf => ?_)
              refine s_iload C dX12_walkOn_167 rfl ?_
              refine s_iaload C dX12_walkOn_169 hf (fun v11 hf => ?_)
              refine s_callV (rvf := fun x => some (.int x)) (st := [.int (a2 ||| ((1 : Int32) <<< (x4 &&& 31))), .int (a1 + (1 : Int32)), rB (xD X).1 o]) (fr := 1) (lo := 22) (mc := 0) (ms := 0) C [12] wc_X12_liesNow wml_X12_242 wim_X12_liesNow wsl_12_X12_liesNow dX12_walkOn_170 (As := [.inl v11]) rfl hf (fun x h' hF => c_X12_liesNow _ _ _ _ _ (x, h') hF) rfl (Nat.le_of_ble_eq_true rfl) (room_ok hX (by omega) (by omega)) (cell_ok hX (Nat.le_of_ble_eq_true rfl) (Nat.le_of_ble_eq_true rfl)) (fun v13 h12 hf => ?_)
              refine s_aload_n C dX12_walkOn_173 rfl ?_
              refine s_iload_n C dX12_walkOn_174 rfl ?_
              refine s_iload C dX12_walkOn_175 rfl ?_
              refine s_iload C dX12_walkOn_177 rfl ?_
              refine s_callV (rvf := fun x => some (.int x)) (st := [.int v13, .int (a2 ||| ((1 : Int32) <<< (x4 &&& 31))), .int (a1 + (1 : Int32)), rB (xD X).1 o]) (fr := 3) (lo := 62) (mc := 0) (ms := 0) C [12] wc_X12_hourBehind wml_X12_557 wim_X12_hourBehind wsl_12_X12_hourBehind dX12_walkOn_179 (As := [.inl a3, .inl a4, .inl x4]) rfl hf (fun x h' hF => c_X12_hourBehind _ _ _ _ _ _ _ (x, h') hF) rfl (Nat.le_of_ble_eq_true rfl) (room_ok hX (by omega) (by omega)) (cell_ok hX (Nat.le_of_ble_eq_true rfl) (Nat.le_of_ble_eq_true rfl)) (fun v15 h14 hf => ?_)
              refine s_iload C dX12_walkOn_182 rfl ?_
              refine s_aload_n C dX12_walkOn_184 rfl ?_
              refine s_getR C fl_X12_142 dX12_walkOn_185 hf (fun v16 hf => ?_)
              refine s_iload C dX12_walkOn_188 rfl ?_
              refine s_iaload C dX12_walkOn_190 hf (fun v17 hf => ?_)
              refine s_iadd C dX12_walkOn_191 ?_
              refine s_callV (rvf := fun _ => none) (st := []) (fr := (4 + nS)) (lo := (87 + 60 * nS)) (mc := 0) (ms := 0) C [12] wc_X12_walkOn wml_X12_560 wim_X12_walkOn wsl_12_X12_walkOn dX12_walkOn_192 (As := [.inl (a1 + (1 : Int32)), .inl (a2 ||| ((1 : Int32) <<< (x4 &&& 31))), .inl v13, .inl v15, .inl (a5 + v17)]) rfl hf (fun x h' hF => ih o (a1 + (1 : Int32)) (a2 ||| ((1 : Int32) <<< (x4 &&& 31))) v13 v15 (a5 + v17) h14 (x, h') hF) rfl (Nat.le_of_ble_eq_true rfl) (room_ok hX (by omega) (by omega)) (cell_ok hX (Nat.le_of_ble_eq_true rfl) (Nat.le_of_ble_eq_true rfl)) (fun _ h18 hf => ?_)
              exact k195 _ hf
            · refine s_goto (tgt := 195) C dX12_walkOn_141 (by decide) ?_
              exact k195 _ hf
      exact k122 lpN _ _ hf
    · exact s_return C E dX12_walkOn_118 hf (Nat.le_of_ble_eq_true rfl) (Nat.le_of_ble_eq_true rfl)
  refine s_if_le (tgt := 104) C dX12_walkOn_1 (by decide) hf (fun hf => ?_) (fun hf => ?_)
  · exact k104 _ hf
  · refine s_iload C dX12_walkOn_4 rfl ?_
    refine s_iload_n C dX12_walkOn_6 rfl ?_
    refine s_aload_n C dX12_walkOn_7 rfl ?_
    refine s_getI C fl_X12_539 dX12_walkOn_8 hf (fun v19 hf => ?_)
    refine s_callS (rvf := fun x => some (.int x)) (st := [.int a4]) (fr := 2) (lo := 41) (mc := 0) (ms := 0) C wc_X12_hoursFor wml_X12_536 wst_X12_hoursFor dX12_walkOn_11 (As := [.inl a3, .inl v19]) rfl hf (fun x h' hF => c_X12_hoursFor _ _ _ _ _ (x, h') hF) rfl (Nat.le_of_ble_eq_true rfl) (room_ok hX (by omega) (by omega)) (cell_ok hX (Nat.le_of_ble_eq_true rfl) (Nat.le_of_ble_eq_true rfl)) (fun v21 h20 hf => ?_)
    refine s_iadd C dX12_walkOn_14 ?_
    refine s_aload_n C dX12_walkOn_15 rfl ?_
    refine s_getI C fl_X12_542 dX12_walkOn_16 hf (fun v22 hf => ?_)
    refine s_isub C dX12_walkOn_19 ?_
    refine s_istore C dX12_walkOn_20 (by decide) (nc_i rfl) (lv' := [some (rB (xD X).1 o), some (.int a1), some (.int a2), some (.int a3), some (.int a4), some (.int a5), some (.int ((a4 + v21) - v22)), none]) rfl ?_
    refine s_iload C dX12_walkOn_22 rfl ?_
    refine s_aload_n C dX12_walkOn_24 rfl ?_
    refine s_getI C fl_X12_545 dX12_walkOn_25 hf (fun v23 hf => ?_)
    refine s_icmp_gt (tgt := 104) C dX12_walkOn_28 (by decide) hf (fun hf => ?_) (fun hf => ?_)
    · refine s_weak (lv' := [some (rB (xD X).1 o), some (.int a1), some (.int a2), some (.int a3), some (.int a4), some (.int a5), none, none]) ⟨rfl, ⟨rfl, ⟨rfl, ⟨rfl, ⟨rfl, ⟨rfl, trivial⟩⟩⟩⟩⟩⟩ ?_
      exact k104 _ hf
    · refine s_iload C dX12_walkOn_31 rfl ?_
      refine s_aload_n C dX12_walkOn_33 rfl ?_
      refine s_getI C fl_X12_548 dX12_walkOn_34 hf (fun v24 hf => ?_)
      refine s_jn hf (fun j58 e58 hf => ?_)
      have k58 : j58  = some r → WW X h20 0 0 58 [some (rB (xD X).1 o), some (.int a1), some (.int a2), some (.int a3), some (.int a4), some (.int a5), some (.int ((a4 + v21) - v22)), none] [] := by
        intro  hf
        rw [e58] at hf
        refine s_aload_n C dX12_walkOn_58 rfl ?_
        refine s_iload C dX12_walkOn_59 rfl ?_
        refine s_putI C fl_X12_548 (by decide) dX12_walkOn_61 hf (fun h25 hf => ?_)
        refine s_aload_n C dX12_walkOn_64 rfl ?_
        refine s_iload C dX12_walkOn_65 rfl ?_
        refine s_putI C fl_X12_551 (by decide) dX12_walkOn_67 hf (fun h26 hf => ?_)
        refine s_aload_n C dX12_walkOn_70 rfl ?_
        refine s_iload_n C dX12_walkOn_71 rfl ?_
        refine s_putI C fl_X12_554 (by decide) dX12_walkOn_72 hf (fun h27 hf => ?_)
        refine s_iconst C dX12_walkOn_75 (v := (0 : Int32)) (by decide) ?_
        refine s_istore C dX12_walkOn_76 (by decide) (nc_i rfl) (lv' := [some (rB (xD X).1 o), some (.int a1), some (.int a2), some (.int a3), some (.int a4), some (.int a5), some (.int ((a4 + v21) - v22)), some (.int (0 : Int32))]) rfl ?_
        refine s_lp2 hf (fun G78 z78 q78 hf => ?_)
        have k78 : ∀ (n : Nat) (x28 : Int32) (h29 : AH), G78 n x28 h29 = some r → WW X h29 0 0 78 [some (rB (xD X).1 o), some (.int a1), some (.int a2), some (.int a3), some (.int a4), some (.int a5), none, some (.int x28)] [] := by
          intro n
          induction n with
          | zero =>
            intro x28 h29 hf
            rw [z78] at hf
            cases hf
          | succ n ih78 =>
            intro x28 h29 hf
            have hf := (q78 n x28 h29).symm.trans hf
            refine s_iload C dX12_walkOn_78 rfl ?_
            refine s_iload_n C dX12_walkOn_80 rfl ?_
            refine s_icmp_ge (tgt := 104) C dX12_walkOn_81 (by decide) hf (fun hf => ?_) (fun hf => ?_)
            · refine s_weak (lv' := [some (rB (xD X).1 o), some (.int a1), some (.int a2), some (.int a3), some (.int a4), some (.int a5), none, none]) ⟨rfl, ⟨rfl, ⟨rfl, ⟨rfl, ⟨rfl, ⟨rfl, trivial⟩⟩⟩⟩⟩⟩ ?_
              exact k104 _ hf
            · refine s_aload_n C dX12_walkOn_84 rfl ?_
              refine s_getR C fl_X12_151 dX12_walkOn_85 hf (fun v30 hf => ?_)
              refine s_iload C dX12_walkOn_88 rfl ?_
              refine s_aload_n C dX12_walkOn_90 rfl ?_
              refine s_getR C fl_X12_148 dX12_walkOn_91 hf (fun v31 hf => ?_)
              refine s_iload C dX12_walkOn_94 rfl ?_
              refine s_iaload C dX12_walkOn_96 hf (fun v32 hf => ?_)
              refine s_iastore C dX12_walkOn_97 hf (fun h33 hf => ?_)
              refine s_iinc C dX12_walkOn_98 (v := (x28 + 1)) rfl rfl (by decide) (nc_n rfl) (lv' := [some (rB (xD X).1 o), some (.int a1), some (.int a2), some (.int a3), some (.int a4), some (.int a5), none, some (.int (x28 + 1))]) rfl ?_
              refine s_goto (tgt := 78) C dX12_walkOn_101 (by decide) ?_
              exact ih78 _ _ hf
        refine s_weak (lv' := [some (rB (xD X).1 o), some (.int a1), some (.int a2), some (.int a3), some (.int a4), some (.int a5), none, some (.int (0 : Int32))]) ⟨rfl, ⟨rfl, ⟨rfl, ⟨rfl, ⟨rfl, ⟨rfl, ⟨rfl, trivial⟩⟩⟩⟩⟩⟩⟩ ?_
        exact k78 lpN _ _ hf
      refine s_icmp_gt (tgt := 58) C dX12_walkOn_37 (by decide) hf (fun hf => ?_) (fun hf => ?_)
      · exact k58 hf
      · refine s_iload C dX12_walkOn_40 rfl ?_
        refine s_aload_n C dX12_walkOn_42 rfl ?_
        refine s_getI C fl_X12_548 dX12_walkOn_43 hf (fun v34 hf => ?_)
        refine s_icmp_ne (tgt := 104) C dX12_walkOn_46 (by decide) hf (fun hf => ?_) (fun hf => ?_)
        · refine s_weak (lv' := [some (rB (xD X).1 o), some (.int a1), some (.int a2), some (.int a3), some (.int a4), some (.int a5), none, none]) ⟨rfl, ⟨rfl, ⟨rfl, ⟨rfl, ⟨rfl, ⟨rfl, trivial⟩⟩⟩⟩⟩⟩ ?_
          exact k104 _ hf
        · refine s_iload C dX12_walkOn_49 rfl ?_
          refine s_aload_n C dX12_walkOn_51 rfl ?_
          refine s_getI C fl_X12_551 dX12_walkOn_52 hf (fun v35 hf => ?_)
          refine s_icmp_ge (tgt := 104) C dX12_walkOn_55 (by decide) hf (fun hf => ?_) (fun hf => ?_)
          · refine s_weak (lv' := [some (rB (xD X).1 o), some (.int a1), some (.int a2), some (.int a3), some (.int a4), some (.int a5), none, none]) ⟨rfl, ⟨rfl, ⟨rfl, ⟨rfl, ⟨rfl, ⟨rfl, trivial⟩⟩⟩⟩⟩⟩ ?_
            exact k104 _ hf
          · exact k58 hf
theorem c_G_X12_walkOn (l : Launch) (D : DT) : ∀ n : Nat, PG_X12_walkOn l D n := by
  intro n
  induction n with
  | zero =>
    unfold PG_X12_walkOn
    exact fun p0 p1 p2 p3 p4 p5 h r hf => (by cases hf)
  | succ nS ih =>
    unfold PG_X12_walkOn
    exact cs_X12_walkOn l D nS ih
theorem c_X12_walkOn (l : Launch) (D : DT) (o : Option Nat) (a1 : Int32) (a2 : Int32) (a3 : Int32) (a4 : Int32) (a5 : Int32) (h : AH) (r : Unit × AH) (hf : f_X12_walkOn o a1 a2 a3 a4 a5 h = some r) : CM l D yX12_walkOn cX12_walkOn 8 none 104 6087 0 0 [.inr (.inr o), .inl a1, .inl a2, .inl a3, .inl a4, .inl a5] h none r.2 := by
  have hc := (c_G_X12_walkOn l D (opq 100))
  unfold PG_X12_walkOn at hc
  have hc := hc o a1 a2 a3 a4 a5 h r hf
  rw [opq_eq] at hc
  exact hc
/-- HillBoxesModel.walk(II)I -/
noncomputable def f_X12_walk (o : Option Nat) (a1 : Int32) (a2 : Int32) (h : AH) : Option (Int32 × AH) :=
  rO h [12] o <| cl (f_X12_isWalk o a1 a2 h) fun v2 h1 =>
  if v2 = 0 then
    some ((-1 : Int32), h1)
  else
    rO h1 [12] o <| cl (f_X12_begin o a1 a2 h1) fun _ h3 =>
    pI h3 [12] o 71 (0 : Int32) fun h4 =>
    pI h4 [12] o 72 (0 : Int32) fun h5 =>
    pI h5 [12] o 73 (0 : Int32) fun h6 =>
    fI h6 [12] o 77 fun v7 =>
    fI h6 [12] o 78 fun v8 =>
    rO h6 [12] o <| cl (f_X12_walkOn o (0 : Int32) (0 : Int32) v7 v8 (0 : Int32) h6) fun _ h9 =>
    fI h9 [12] o 73 fun v10 =>
    if v10 = 0 then
      some ((-2 : Int32), h9)
    else
      fI h9 [12] o 73 fun v11 =>
      pI h9 [12] o 75 v11 fun h12 =>
      fI h12 [12] o 72 fun v13 =>
      pI h12 [12] o 76 v13 fun h14 =>
      lp (fun _ _ => none) (fun (L75 : Int32 → AH → Option (Int32 × AH)) (x15 : Int32) (h16 : AH) =>
        fI h16 [12] o 73 fun v17 =>
        if v17 ≤ x15 then
          pI h16 [12] o 65 (0 : Int32) fun h18 =>
          fI h18 [12] o 71 fun v19 =>
          some (v19, h18)
        else
          fR h16 [12] o 74 fun v20 =>
          fR h16 [12] o 66 fun v21 =>
          fR h16 [12] o 70 fun v22 =>
          aI h16 20 v22 x15 fun v23 =>
          aI h16 20 v21 v23 fun v24 =>
          bI h16 20 v20 x15 v24 fun h25 =>
          L75 (x15 + 1) h25) lpN (0 : Int32) h14
set_option maxRecDepth 100000 in
set_option maxHeartbeats 4000000 in
theorem c_X12_walk (l : Launch) (D : DT) (o : Option Nat) (a1 : Int32) (a2 : Int32) (h : AH) (r : Int32 × AH) (hf : f_X12_walk o a1 a2 h = some r) : CM l D yX12_walk cX12_walk 4 (some .int) 105 6114 0 0 [.inr (.inr o), .inl a1, .inl a2] h (some (.int r.1)) r.2 := by
  refine CM.of (by decide) (Nat.le_of_ble_eq_true rfl) (fun X hl C hD hX hnm E => ?_)
  subst hl
  subst hD
  have C : CX X RX12 cX12_walk 4 := C
  show WW X h 0 0 0 [some (rB (xD X).1 o), some (.int a1), some (.int a2), none] []
  unfold f_X12_walk at hf
  refine s_aload_n C dX12_walk_0 rfl ?_
  refine s_iload_n C dX12_walk_1 rfl ?_
  refine s_iload_n C dX12_walk_2 rfl ?_
  refine s_callV (rvf := fun x => some (.int x)) (st := []) (fr := 1) (lo := 22) (mc := 0) (ms := 0) C [12] wc_X12_isWalk wml_X12_564 wim_X12_isWalk wsl_12_X12_isWalk dX12_walk_3 (As := [.inl a1, .inl a2]) rfl hf (fun x h' hF => c_X12_isWalk _ _ _ _ _ _ (x, h') hF) rfl (Nat.le_of_ble_eq_true rfl) (room_ok hX (Nat.le_of_ble_eq_true rfl) (Nat.le_of_ble_eq_true rfl)) (cell_ok hX (Nat.le_of_ble_eq_true rfl) (Nat.le_of_ble_eq_true rfl)) (fun v2 h1 hf => ?_)
  refine s_if_ne (tgt := 11) C dX12_walk_6 (by decide) hf (fun hf => ?_) (fun hf => ?_)
  · refine s_aload_n C dX12_walk_11 rfl ?_
    refine s_iload_n C dX12_walk_12 rfl ?_
    refine s_iload_n C dX12_walk_13 rfl ?_
    refine s_callV (rvf := fun _ => none) (st := []) (fr := 0) (lo := 0) (mc := 0) (ms := 0) C [12] wc_X12_begin wml_X12_567 wim_X12_begin wsl_12_X12_begin dX12_walk_14 (As := [.inl a1, .inl a2]) rfl hf (fun x h' hF => c_X12_begin _ _ _ _ _ _ (x, h') hF) rfl (Nat.le_of_ble_eq_true rfl) (room_ok hX (Nat.le_of_ble_eq_true rfl) (Nat.le_of_ble_eq_true rfl)) (cell_ok hX (Nat.le_of_ble_eq_true rfl) (Nat.le_of_ble_eq_true rfl)) (fun _ h3 hf => ?_)
    refine s_aload_n C dX12_walk_17 rfl ?_
    refine s_iconst C dX12_walk_18 (v := (0 : Int32)) (by decide) ?_
    refine s_putI C fl_X12_548 (by decide) dX12_walk_19 hf (fun h4 hf => ?_)
    refine s_aload_n C dX12_walk_22 rfl ?_
    refine s_iconst C dX12_walk_23 (v := (0 : Int32)) (by decide) ?_
    refine s_putI C fl_X12_551 (by decide) dX12_walk_24 hf (fun h5 hf => ?_)
    refine s_aload_n C dX12_walk_27 rfl ?_
    refine s_iconst C dX12_walk_28 (v := (0 : Int32)) (by decide) ?_
    refine s_putI C fl_X12_554 (by decide) dX12_walk_29 hf (fun h6 hf => ?_)
    refine s_aload_n C dX12_walk_32 rfl ?_
    refine s_iconst C dX12_walk_33 (v := (0 : Int32)) (by decide) ?_
    refine s_iconst C dX12_walk_34 (v := (0 : Int32)) (by decide) ?_
    refine s_aload_n C dX12_walk_35 rfl ?_
    refine s_getI C fl_X12_539 dX12_walk_36 hf (fun v7 hf => ?_)
    refine s_aload_n C dX12_walk_39 rfl ?_
    refine s_getI C fl_X12_542 dX12_walk_40 hf (fun v8 hf => ?_)
    refine s_iconst C dX12_walk_43 (v := (0 : Int32)) (by decide) ?_
    refine s_callV (rvf := fun _ => none) (st := []) (fr := 104) (lo := 6087) (mc := 0) (ms := 0) C [12] wc_X12_walkOn wml_X12_560 wim_X12_walkOn wsl_12_X12_walkOn dX12_walk_44 (As := [.inl (0 : Int32), .inl (0 : Int32), .inl v7, .inl v8, .inl (0 : Int32)]) rfl hf (fun x h' hF => c_X12_walkOn _ _ _ _ _ _ _ _ _ (x, h') hF) rfl (Nat.le_of_ble_eq_true rfl) (room_ok hX (Nat.le_of_ble_eq_true rfl) (Nat.le_of_ble_eq_true rfl)) (cell_ok hX (Nat.le_of_ble_eq_true rfl) (Nat.le_of_ble_eq_true rfl)) (fun _ h9 hf => ?_)
    refine s_aload_n C dX12_walk_47 rfl ?_
    refine s_getI C fl_X12_554 dX12_walk_48 hf (fun v10 hf => ?_)
    refine s_if_ne (tgt := 57) C dX12_walk_51 (by decide) hf (fun hf => ?_) (fun hf => ?_)
    · refine s_aload_n C dX12_walk_57 rfl ?_
      refine s_aload_n C dX12_walk_58 rfl ?_
      refine s_getI C fl_X12_554 dX12_walk_59 hf (fun v11 hf => ?_)
      refine s_putI C fl_X12_157 (by decide) dX12_walk_62 hf (fun h12 hf => ?_)
      refine s_aload_n C dX12_walk_65 rfl ?_
      refine s_aload_n C dX12_walk_66 rfl ?_
      refine s_getI C fl_X12_551 dX12_walk_67 hf (fun v13 hf => ?_)
      refine s_putI C fl_X12_161 (by decide) dX12_walk_70 hf (fun h14 hf => ?_)
      refine s_iconst C dX12_walk_73 (v := (0 : Int32)) (by decide) ?_
      refine s_istore_n C dX12_walk_74 (by decide) (nc_i rfl) (lv' := [some (rB (xD X).1 o), some (.int a1), some (.int a2), some (.int (0 : Int32))]) rfl ?_
      refine s_lp2 hf (fun G75 z75 q75 hf => ?_)
      have k75 : ∀ (n : Nat) (x15 : Int32) (h16 : AH), G75 n x15 h16 = some r → WW X h16 0 0 75 [some (rB (xD X).1 o), none, none, some (.int x15)] [] := by
        intro n
        induction n with
        | zero =>
          intro x15 h16 hf
          rw [z75] at hf
          cases hf
        | succ n ih75 =>
          intro x15 h16 hf
          have hf := (q75 n x15 h16).symm.trans hf
          refine s_iload_n C dX12_walk_75 rfl ?_
          refine s_aload_n C dX12_walk_76 rfl ?_
          refine s_getI C fl_X12_554 dX12_walk_77 hf (fun v17 hf => ?_)
          refine s_icmp_ge (tgt := 106) C dX12_walk_80 (by decide) hf (fun hf => ?_) (fun hf => ?_)
          · refine s_aload_n C dX12_walk_106 rfl ?_
            refine s_iconst C dX12_walk_107 (v := (0 : Int32)) (by decide) ?_
            refine s_putI C fl_X12_533 (by decide) dX12_walk_108 hf (fun h18 hf => ?_)
            refine s_aload_n C dX12_walk_111 rfl ?_
            refine s_getI C fl_X12_548 dX12_walk_112 hf (fun v19 hf => ?_)
            exact s_ireturn C E dX12_walk_115 hf (Nat.le_of_ble_eq_true rfl) (Nat.le_of_ble_eq_true rfl)
          · refine s_aload_n C dX12_walk_83 rfl ?_
            refine s_getR C fl_X12_154 dX12_walk_84 hf (fun v20 hf => ?_)
            refine s_iload_n C dX12_walk_87 rfl ?_
            refine s_aload_n C dX12_walk_88 rfl ?_
            refine s_getR C fl_X12_139 dX12_walk_89 hf (fun v21 hf => ?_)
            refine s_aload_n C dX12_walk_92 rfl ?_
            refine s_getR C fl_X12_151 dX12_walk_93 hf (fun v22 hf => ?_)
            refine s_iload_n C dX12_walk_96 rfl ?_
            refine s_iaload C dX12_walk_97 hf (fun v23 hf => ?_)
            refine s_iaload C dX12_walk_98 hf (fun v24 hf => ?_)
            refine s_iastore C dX12_walk_99 hf (fun h25 hf => ?_)
            refine s_iinc C dX12_walk_100 (v := (x15 + 1)) rfl rfl (by decide) (nc_n rfl) (lv' := [some (rB (xD X).1 o), none, none, some (.int (x15 + 1))]) rfl ?_
            refine s_goto (tgt := 75) C dX12_walk_103 (by decide) ?_
            exact ih75 _ _ hf
      refine s_weak (lv' := [some (rB (xD X).1 o), none, none, some (.int (0 : Int32))]) ⟨rfl, ⟨rfl, trivial⟩⟩ ?_
      exact k75 lpN _ _ hf
    · refine s_bipush C dX12_walk_54 (v := (-2 : Int32)) (by decide) ?_
      exact s_ireturn C E dX12_walk_56 hf (Nat.le_of_ble_eq_true rfl) (Nat.le_of_ble_eq_true rfl)
  · refine s_iconst C dX12_walk_9 (v := (-1 : Int32)) (by decide) ?_
    exact s_ireturn C E dX12_walk_10 hf (Nat.le_of_ble_eq_true rfl) (Nat.le_of_ble_eq_true rfl)
/-- HillBoxesModel.walked(I)I -/
noncomputable def f_X12_walked (o : Option Nat) (a1 : Int32) (h : AH) : Option (Int32 × AH) :=
  jn (fun (x1 : Int32) (h2 : AH) =>
    some (x1, h2)) fun j36 =>
  if a1 = (-1 : Int32) then
    fI h [12] o 76 fun v8 =>
    j36 v8 h
  else
    fI h [12] o 75 fun v3 =>
    cl (f_X12_in a1 (0 : Int32) (v3 - (1 : Int32)) h) fun v5 h4 =>
    if v5 = 0 then
      j36 (-1 : Int32) h4
    else
      fR h4 [12] o 74 fun v6 =>
      aI h4 20 v6 a1 fun v7 =>
      j36 v7 h4
set_option maxRecDepth 100000 in
set_option maxHeartbeats 4000000 in
theorem c_X12_walked (l : Launch) (D : DT) (o : Option Nat) (a1 : Int32) (h : AH) (r : Int32 × AH) (hf : f_X12_walked o a1 h = some r) : CM l D yX12_walked cX12_walked 2 (some .int) 1 22 0 0 [.inr (.inr o), .inl a1] h (some (.int r.1)) r.2 := by
  refine CM.of (by decide) (Nat.le_of_ble_eq_true rfl) (fun X hl C hD hX hnm E => ?_)
  subst hl
  subst hD
  have C : CX X RX12 cX12_walked 2 := C
  show WW X h 0 0 0 [some (rB (xD X).1 o), some (.int a1)] []
  unfold f_X12_walked at hf
  refine s_iload_n C dX12_walked_0 rfl ?_
  refine s_iconst C dX12_walked_1 (v := (-1 : Int32)) (by decide) ?_
  refine s_jn hf (fun j36 e36 hf => ?_)
  have k36 : ∀ (x1 : Int32) (h2 : AH), j36 x1 h2 = some r → WW X h2 0 0 36 [none, none] [.int x1] := by
    intro x1 h2 hf
    rw [e36] at hf
    exact s_ireturn C E dX12_walked_36 hf (Nat.le_of_ble_eq_true rfl) (Nat.le_of_ble_eq_true rfl)
  refine s_icmp_ne (tgt := 12) C dX12_walked_2 (by decide) hf (fun hf => ?_) (fun hf => ?_)
  · refine s_iload_n C dX12_walked_12 rfl ?_
    refine s_iconst C dX12_walked_13 (v := (0 : Int32)) (by decide) ?_
    refine s_aload_n C dX12_walked_14 rfl ?_
    refine s_getI C fl_X12_157 dX12_walked_15 hf (fun v3 hf => ?_)
    refine s_iconst C dX12_walked_18 (v := (1 : Int32)) (by decide) ?_
    refine s_isub C dX12_walked_19 ?_
    refine s_callS (rvf := fun x => some (.int x)) (st := []) (fr := 0) (lo := 0) (mc := 0) (ms := 0) C wc_X12_in wml_X12_195 wst_X12_in dX12_walked_20 (As := [.inl a1, .inl (0 : Int32), .inl (v3 - (1 : Int32))]) rfl hf (fun x h' hF => c_X12_in _ _ _ _ _ _ (x, h') hF) rfl (Nat.le_of_ble_eq_true rfl) (room_ok hX (Nat.le_of_ble_eq_true rfl) (Nat.le_of_ble_eq_true rfl)) (cell_ok hX (Nat.le_of_ble_eq_true rfl) (Nat.le_of_ble_eq_true rfl)) (fun v5 h4 hf => ?_)
    refine s_if_eq (tgt := 35) C dX12_walked_23 (by decide) hf (fun hf => ?_) (fun hf => ?_)
    · refine s_iconst C dX12_walked_35 (v := (-1 : Int32)) (by decide) ?_
      refine s_weak (lv' := [none, none]) trivial ?_
      exact k36 _ _ hf
    · refine s_aload_n C dX12_walked_26 rfl ?_
      refine s_getR C fl_X12_154 dX12_walked_27 hf (fun v6 hf => ?_)
      refine s_iload_n C dX12_walked_30 rfl ?_
      refine s_iaload C dX12_walked_31 hf (fun v7 hf => ?_)
      refine s_goto (tgt := 36) C dX12_walked_32 (by decide) ?_
      refine s_weak (lv' := [none, none]) trivial ?_
      exact k36 _ _ hf
  · refine s_aload_n C dX12_walked_5 rfl ?_
    refine s_getI C fl_X12_161 dX12_walked_6 hf (fun v8 hf => ?_)
    refine s_goto (tgt := 36) C dX12_walked_9 (by decide) ?_
    refine s_weak (lv' := [none, none]) trivial ?_
    exact k36 _ _ hf
/-- HillBoxesModel.why(IIII)I -/
noncomputable def f_X12_why (o : Option Nat) (a1 : Int32) (a2 : Int32) (a3 : Int32) (a4 : Int32) (h : AH) : Option (Int32 × AH) :=
  rO h [12] o <| cl (f_X12_canAsk o a1 a2 a3 h) fun v2 h1 =>
  jn (fun (h3 : AH) =>
    some ((-1 : Int32), h3)) fun j20 =>
  if v2 = 0 then
    j20 h1
  else
    cl (f_X12_in a4 (0 : Int32) (1 : Int32) h1) fun v5 h4 =>
    if v5 = 0 then
      j20 h4
    else
      rO h4 [12] o <| cl (f_X12_whyNot o a1 a2 a3 h4) fun v7 h6 =>
      jn (fun (x8 : Int32) =>
        some (x8, h6)) fun j48 =>
      jn (
        j48 v7) fun j46 =>
      if a4 = 0 then
        if v7 = (4 : Int32) then
          j48 (3 : Int32)
        else
          j46
      else
        j46
set_option maxRecDepth 100000 in
set_option maxHeartbeats 4000000 in
theorem c_X12_why (l : Launch) (D : DT) (o : Option Nat) (a1 : Int32) (a2 : Int32) (a3 : Int32) (a4 : Int32) (h : AH) (r : Int32 × AH) (hf : f_X12_why o a1 a2 a3 a4 h = some r) : CM l D yX12_why cX12_why 6 (some .int) 8 180 0 0 [.inr (.inr o), .inl a1, .inl a2, .inl a3, .inl a4] h (some (.int r.1)) r.2 := by
  refine CM.of (by decide) (Nat.le_of_ble_eq_true rfl) (fun X hl C hD hX hnm E => ?_)
  subst hl
  subst hD
  have C : CX X RX12 cX12_why 6 := C
  show WW X h 0 0 0 [some (rB (xD X).1 o), some (.int a1), some (.int a2), some (.int a3), some (.int a4), none] []
  unfold f_X12_why at hf
  refine s_aload_n C dX12_why_0 rfl ?_
  refine s_iload_n C dX12_why_1 rfl ?_
  refine s_iload_n C dX12_why_2 rfl ?_
  refine s_iload_n C dX12_why_3 rfl ?_
  refine s_callV (rvf := fun x => some (.int x)) (st := []) (fr := 3) (lo := 64) (mc := 0) (ms := 0) C [12] wc_X12_canAsk wml_X12_457 wim_X12_canAsk wsl_12_X12_canAsk dX12_why_4 (As := [.inl a1, .inl a2, .inl a3]) rfl hf (fun x h' hF => c_X12_canAsk _ _ _ _ _ _ _ (x, h') hF) rfl (Nat.le_of_ble_eq_true rfl) (room_ok hX (Nat.le_of_ble_eq_true rfl) (Nat.le_of_ble_eq_true rfl)) (cell_ok hX (Nat.le_of_ble_eq_true rfl) (Nat.le_of_ble_eq_true rfl)) (fun v2 h1 hf => ?_)
  refine s_jn hf (fun j20 e20 hf => ?_)
  have k20 : ∀ (h3 : AH), j20 h3 = some r → WW X h3 0 0 20 [none, none, none, none, none, none] [] := by
    intro h3 hf
    rw [e20] at hf
    refine s_iconst C dX12_why_20 (v := (-1 : Int32)) (by decide) ?_
    exact s_ireturn C E dX12_why_21 hf (Nat.le_of_ble_eq_true rfl) (Nat.le_of_ble_eq_true rfl)
  refine s_if_eq (tgt := 20) C dX12_why_7 (by decide) hf (fun hf => ?_) (fun hf => ?_)
  · refine s_weak (lv' := [none, none, none, none, none, none]) trivial ?_
    exact k20 _ hf
  · refine s_iload C dX12_why_10 rfl ?_
    refine s_iconst C dX12_why_12 (v := (0 : Int32)) (by decide) ?_
    refine s_iconst C dX12_why_13 (v := (1 : Int32)) (by decide) ?_
    refine s_callS (rvf := fun x => some (.int x)) (st := []) (fr := 0) (lo := 0) (mc := 0) (ms := 0) C wc_X12_in wml_X12_195 wst_X12_in dX12_why_14 (As := [.inl a4, .inl (0 : Int32), .inl (1 : Int32)]) rfl hf (fun x h' hF => c_X12_in _ _ _ _ _ _ (x, h') hF) rfl (Nat.le_of_ble_eq_true rfl) (room_ok hX (Nat.le_of_ble_eq_true rfl) (Nat.le_of_ble_eq_true rfl)) (cell_ok hX (Nat.le_of_ble_eq_true rfl) (Nat.le_of_ble_eq_true rfl)) (fun v5 h4 hf => ?_)
    refine s_if_ne (tgt := 22) C dX12_why_17 (by decide) hf (fun hf => ?_) (fun hf => ?_)
    · refine s_aload_n C dX12_why_22 rfl ?_
      refine s_iload_n C dX12_why_23 rfl ?_
      refine s_iload_n C dX12_why_24 rfl ?_
      refine s_iload_n C dX12_why_25 rfl ?_
      refine s_callV (rvf := fun x => some (.int x)) (st := []) (fr := 7) (lo := 153) (mc := 0) (ms := 0) C [12] wc_X12_whyNot wml_X12_460 wim_X12_whyNot wsl_12_X12_whyNot dX12_why_26 (As := [.inl a1, .inl a2, .inl a3]) rfl hf (fun x h' hF => c_X12_whyNot _ _ _ _ _ _ _ (x, h') hF) rfl (Nat.le_of_ble_eq_true rfl) (room_ok hX (Nat.le_of_ble_eq_true rfl) (Nat.le_of_ble_eq_true rfl)) (cell_ok hX (Nat.le_of_ble_eq_true rfl) (Nat.le_of_ble_eq_true rfl)) (fun v7 h6 hf => ?_)
      refine s_istore C dX12_why_29 (by decide) (nc_i rfl) (lv' := [some (rB (xD X).1 o), some (.int a1), some (.int a2), some (.int a3), some (.int a4), some (.int v7)]) rfl ?_
      refine s_iload C dX12_why_31 rfl ?_
      refine s_jn hf (fun j48 e48 hf => ?_)
      have k48 : ∀ (x8 : Int32), j48 x8 = some r → WW X h6 0 0 48 [none, none, none, none, none, none] [.int x8] := by
        intro x8 hf
        rw [e48] at hf
        exact s_ireturn C E dX12_why_48 hf (Nat.le_of_ble_eq_true rfl) (Nat.le_of_ble_eq_true rfl)
      refine s_jn hf (fun j46 e46 hf => ?_)
      have k46 : j46  = some r → WW X h6 0 0 46 [none, none, none, none, none, some (.int v7)] [] := by
        intro  hf
        rw [e46] at hf
        refine s_iload C dX12_why_46 rfl ?_
        refine s_weak (lv' := [none, none, none, none, none, none]) trivial ?_
        exact k48 _ hf
      refine s_if_ne (tgt := 46) C dX12_why_33 (by decide) hf (fun hf => ?_) (fun hf => ?_)
      · refine s_weak (lv' := [none, none, none, none, none, some (.int v7)]) ⟨rfl, trivial⟩ ?_
        exact k46 hf
      · refine s_iload C dX12_why_36 rfl ?_
        refine s_iconst C dX12_why_38 (v := (4 : Int32)) (by decide) ?_
        refine s_icmp_ne (tgt := 46) C dX12_why_39 (by decide) hf (fun hf => ?_) (fun hf => ?_)
        · refine s_weak (lv' := [none, none, none, none, none, some (.int v7)]) ⟨rfl, trivial⟩ ?_
          exact k46 hf
        · refine s_iconst C dX12_why_42 (v := (3 : Int32)) (by decide) ?_
          refine s_goto (tgt := 48) C dX12_why_43 (by decide) ?_
          refine s_weak (lv' := [none, none, none, none, none, none]) trivial ?_
          exact k48 _ hf
    · refine s_weak (lv' := [none, none, none, none, none, none]) trivial ?_
      exact k20 _ hf
/-- HillBoxesModel.wish(III)I -/
noncomputable def f_X12_wish (o : Option Nat) (a1 : Int32) (a2 : Int32) (a3 : Int32) (h : AH) : Option (Int32 × AH) :=
  rO h [12] o <| cl (f_X12_isOut o a1 h) fun v2 h1 =>
  jn (fun (h3 : AH) =>
    some ((-1 : Int32), h3)) fun j28 =>
  if v2 = 0 then
    j28 h1
  else
    cl (f_X12_in a2 (1 : Int32) (99 : Int32) h1) fun v5 h4 =>
    if v5 = 0 then
      j28 h4
    else
      cl (f_X12_in a3 (0 : Int32) (9 : Int32) h4) fun v7 h6 =>
      if v7 = 0 then
        j28 h6
      else
        lp (fun _ => none) (fun (L33 : Int32 → Option (Int32 × AH)) (x8 : Int32) =>
          fI h6 [12] o 65 fun v9 =>
          if v9 ≤ x8 then
            fI h6 [12] o 65 fun v10 =>
            if v10 = (7 : Int32) then
              some ((-3 : Int32), h6)
            else
              fR h6 [12] o 66 fun v11 =>
              fI h6 [12] o 65 fun v12 =>
              bI h6 20 v11 v12 a1 fun h13 =>
              fR h13 [12] o 67 fun v14 =>
              fI h13 [12] o 65 fun v15 =>
              bI h13 20 v14 v15 a2 fun h16 =>
              fR h16 [12] o 68 fun v17 =>
              fI h16 [12] o 65 fun v18 =>
              bI h16 20 v17 v18 a3 fun h19 =>
              fI h19 [12] o 65 fun v20 =>
              pI h19 [12] o 65 (v20 + (1 : Int32)) fun h21 =>
              fI h21 [12] o 65 fun v22 =>
              some (v22, h21)
          else
            fR h6 [12] o 66 fun v23 =>
            aI h6 20 v23 x8 fun v24 =>
            if v24 = a1 then
              some ((-1 : Int32), h6)
            else
              L33 (x8 + 1)) lpN (0 : Int32)
set_option maxRecDepth 100000 in
set_option maxHeartbeats 4000000 in
theorem c_X12_wish (l : Launch) (D : DT) (o : Option Nat) (a1 : Int32) (a2 : Int32) (a3 : Int32) (h : AH) (r : Int32 × AH) (hf : f_X12_wish o a1 a2 a3 h = some r) : CM l D yX12_wish cX12_wish 5 (some .int) 4 85 0 0 [.inr (.inr o), .inl a1, .inl a2, .inl a3] h (some (.int r.1)) r.2 := by
  refine CM.of (by decide) (Nat.le_of_ble_eq_true rfl) (fun X hl C hD hX hnm E => ?_)
  subst hl
  subst hD
  have C : CX X RX12 cX12_wish 5 := C
  show WW X h 0 0 0 [some (rB (xD X).1 o), some (.int a1), some (.int a2), some (.int a3), none] []
  unfold f_X12_wish at hf
  refine s_aload_n C dX12_wish_0 rfl ?_
  refine s_iload_n C dX12_wish_1 rfl ?_
  refine s_callV (rvf := fun x => some (.int x)) (st := []) (fr := 3) (lo := 64) (mc := 0) (ms := 0) C [12] wc_X12_isOut wml_X12_255 wim_X12_isOut wsl_12_X12_isOut dX12_wish_2 (As := [.inl a1]) rfl hf (fun x h' hF => c_X12_isOut _ _ _ _ _ (x, h') hF) rfl (Nat.le_of_ble_eq_true rfl) (room_ok hX (Nat.le_of_ble_eq_true rfl) (Nat.le_of_ble_eq_true rfl)) (cell_ok hX (Nat.le_of_ble_eq_true rfl) (Nat.le_of_ble_eq_true rfl)) (fun v2 h1 hf => ?_)
  refine s_jn hf (fun j28 e28 hf => ?_)
  have k28 : ∀ (h3 : AH), j28 h3 = some r → WW X h3 0 0 28 [none, none, none, none, none] [] := by
    intro h3 hf
    rw [e28] at hf
    refine s_iconst C dX12_wish_28 (v := (-1 : Int32)) (by decide) ?_
    exact s_ireturn C E dX12_wish_29 hf (Nat.le_of_ble_eq_true rfl) (Nat.le_of_ble_eq_true rfl)
  refine s_if_eq (tgt := 28) C dX12_wish_5 (by decide) hf (fun hf => ?_) (fun hf => ?_)
  · refine s_weak (lv' := [none, none, none, none, none]) trivial ?_
    exact k28 _ hf
  · refine s_iload_n C dX12_wish_8 rfl ?_
    refine s_iconst C dX12_wish_9 (v := (1 : Int32)) (by decide) ?_
    refine s_bipush C dX12_wish_10 (v := (99 : Int32)) (by decide) ?_
    refine s_callS (rvf := fun x => some (.int x)) (st := []) (fr := 0) (lo := 0) (mc := 0) (ms := 0) C wc_X12_in wml_X12_195 wst_X12_in dX12_wish_12 (As := [.inl a2, .inl (1 : Int32), .inl (99 : Int32)]) rfl hf (fun x h' hF => c_X12_in _ _ _ _ _ _ (x, h') hF) rfl (Nat.le_of_ble_eq_true rfl) (room_ok hX (Nat.le_of_ble_eq_true rfl) (Nat.le_of_ble_eq_true rfl)) (cell_ok hX (Nat.le_of_ble_eq_true rfl) (Nat.le_of_ble_eq_true rfl)) (fun v5 h4 hf => ?_)
    refine s_if_eq (tgt := 28) C dX12_wish_15 (by decide) hf (fun hf => ?_) (fun hf => ?_)
    · refine s_weak (lv' := [none, none, none, none, none]) trivial ?_
      exact k28 _ hf
    · refine s_iload_n C dX12_wish_18 rfl ?_
      refine s_iconst C dX12_wish_19 (v := (0 : Int32)) (by decide) ?_
      refine s_bipush C dX12_wish_20 (v := (9 : Int32)) (by decide) ?_
      refine s_callS (rvf := fun x => some (.int x)) (st := []) (fr := 0) (lo := 0) (mc := 0) (ms := 0) C wc_X12_in wml_X12_195 wst_X12_in dX12_wish_22 (As := [.inl a3, .inl (0 : Int32), .inl (9 : Int32)]) rfl hf (fun x h' hF => c_X12_in _ _ _ _ _ _ (x, h') hF) rfl (Nat.le_of_ble_eq_true rfl) (room_ok hX (Nat.le_of_ble_eq_true rfl) (Nat.le_of_ble_eq_true rfl)) (cell_ok hX (Nat.le_of_ble_eq_true rfl) (Nat.le_of_ble_eq_true rfl)) (fun v7 h6 hf => ?_)
      refine s_if_ne (tgt := 30) C dX12_wish_25 (by decide) hf (fun hf => ?_) (fun hf => ?_)
      · refine s_iconst C dX12_wish_30 (v := (0 : Int32)) (by decide) ?_
        refine s_istore C dX12_wish_31 (by decide) (nc_i rfl) (lv' := [some (rB (xD X).1 o), some (.int a1), some (.int a2), some (.int a3), some (.int (0 : Int32))]) rfl ?_
        refine s_lp1 hf (fun G33 z33 q33 hf => ?_)
        have k33 : ∀ (n : Nat) (x8 : Int32), G33 n x8 = some r → WW X h6 0 0 33 [some (rB (xD X).1 o), some (.int a1), some (.int a2), some (.int a3), some (.int x8)] [] := by
          intro n
          induction n with
          | zero =>
            intro x8 hf
            rw [z33] at hf
            cases hf
          | succ n ih33 =>
            intro x8 hf
            have hf := (q33 n x8).symm.trans hf
            refine s_iload C dX12_wish_33 rfl ?_
            refine s_aload_n C dX12_wish_35 rfl ?_
            refine s_getI C fl_X12_533 dX12_wish_36 hf (fun v9 hf => ?_)
            refine s_icmp_ge (tgt := 61) C dX12_wish_39 (by decide) hf (fun hf => ?_) (fun hf => ?_)
            · refine s_aload_n C dX12_wish_61 rfl ?_
              refine s_getI C fl_X12_533 dX12_wish_62 hf (fun v10 hf => ?_)
              refine s_bipush C dX12_wish_65 (v := (7 : Int32)) (by decide) ?_
              refine s_icmp_ne (tgt := 73) C dX12_wish_67 (by decide) hf (fun hf => ?_) (fun hf => ?_)
              · refine s_aload_n C dX12_wish_73 rfl ?_
                refine s_getR C fl_X12_139 dX12_wish_74 hf (fun v11 hf => ?_)
                refine s_aload_n C dX12_wish_77 rfl ?_
                refine s_getI C fl_X12_533 dX12_wish_78 hf (fun v12 hf => ?_)
                refine s_iload_n C dX12_wish_81 rfl ?_
                refine s_iastore C dX12_wish_82 hf (fun h13 hf => ?_)
                refine s_aload_n C dX12_wish_83 rfl ?_
                refine s_getR C fl_X12_142 dX12_wish_84 hf (fun v14 hf => ?_)
                refine s_aload_n C dX12_wish_87 rfl ?_
                refine s_getI C fl_X12_533 dX12_wish_88 hf (fun v15 hf => ?_)
                refine s_iload_n C dX12_wish_91 rfl ?_
                refine s_iastore C dX12_wish_92 hf (fun h16 hf => ?_)
                refine s_aload_n C dX12_wish_93 rfl ?_
                refine s_getR C fl_X12_145 dX12_wish_94 hf (fun v17 hf => ?_)
                refine s_aload_n C dX12_wish_97 rfl ?_
                refine s_getI C fl_X12_533 dX12_wish_98 hf (fun v18 hf => ?_)
                refine s_iload_n C dX12_wish_101 rfl ?_
                refine s_iastore C dX12_wish_102 hf (fun h19 hf => ?_)
                refine s_aload_n C dX12_wish_103 rfl ?_
                refine s_dup C dX12_wish_104 c1_r ?_
                refine s_getI C fl_X12_533 dX12_wish_105 hf (fun v20 hf => ?_)
                refine s_iconst C dX12_wish_108 (v := (1 : Int32)) (by decide) ?_
                refine s_iadd C dX12_wish_109 ?_
                refine s_putI C fl_X12_533 (by decide) dX12_wish_110 hf (fun h21 hf => ?_)
                refine s_aload_n C dX12_wish_113 rfl ?_
                refine s_getI C fl_X12_533 dX12_wish_114 hf (fun v22 hf => ?_)
                exact s_ireturn C E dX12_wish_117 hf (Nat.le_of_ble_eq_true rfl) (Nat.le_of_ble_eq_true rfl)
              · refine s_bipush C dX12_wish_70 (v := (-3 : Int32)) (by decide) ?_
                exact s_ireturn C E dX12_wish_72 hf (Nat.le_of_ble_eq_true rfl) (Nat.le_of_ble_eq_true rfl)
            · refine s_aload_n C dX12_wish_42 rfl ?_
              refine s_getR C fl_X12_139 dX12_wish_43 hf (fun v23 hf => ?_)
              refine s_iload C dX12_wish_46 rfl ?_
              refine s_iaload C dX12_wish_48 hf (fun v24 hf => ?_)
              refine s_iload_n C dX12_wish_49 rfl ?_
              refine s_icmp_ne (tgt := 55) C dX12_wish_50 (by decide) hf (fun hf => ?_) (fun hf => ?_)
              · refine s_iinc C dX12_wish_55 (v := (x8 + 1)) rfl rfl (by decide) (nc_i rfl) (lv' := [some (rB (xD X).1 o), some (.int a1), some (.int a2), some (.int a3), some (.int (x8 + 1))]) rfl ?_
                refine s_goto (tgt := 33) C dX12_wish_58 (by decide) ?_
                exact ih33 _ hf
              · refine s_iconst C dX12_wish_53 (v := (-1 : Int32)) (by decide) ?_
                exact s_ireturn C E dX12_wish_54 hf (Nat.le_of_ble_eq_true rfl) (Nat.le_of_ble_eq_true rfl)
        exact k33 lpN _ hf
      · refine s_weak (lv' := [none, none, none, none, none]) trivial ?_
        exact k28 _ hf
