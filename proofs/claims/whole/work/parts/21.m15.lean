/-- HillBoxesModel.solveAll(II)V -/
noncomputable def f_X12_solveAll (o : Option Nat) (a1 : Int32) (a2 : Int32) (h : AH) : Option (Unit × AH) :=
  pI h [12] o 52 a1 fun h1 =>
  rO h1 [12] o <| cl (f_X12_findLetters o a1 h1) fun _ h2 =>
  pI h2 [12] o 54 (0 : Int32) fun h3 =>
  pI h3 [12] o 55 a2 fun h4 =>
  pL h4 [12] o 58 (0 : Int64) fun h5 =>
  rO h5 [12] o <| cl (f_X12_solveOn o (0 : Int32) (0 : Int32) h5) fun _ h6 =>
  some ((), h6)
set_option maxRecDepth 100000 in
set_option maxHeartbeats 4000000 in
theorem c_X12_solveAll (l : Launch) (D : DT) (o : Option Nat) (a1 : Int32) (a2 : Int32) (h : AH) (r : Unit × AH) (hf : f_X12_solveAll o a1 a2 h = some r) : CM l D yX12_solveAll cX12_solveAll 3 none 103 6069 0 0 [.inr (.inr o), .inl a1, .inl a2] h none r.2 := by
  refine CM.of (by decide) (Nat.le_of_ble_eq_true rfl) (fun X hl C hD hX hnm E => ?_)
  subst hl
  subst hD
  have C : CX X RX12 cX12_solveAll 3 := C
  show WW X h 0 0 0 [some (rB (xD X).1 o), some (.int a1), some (.int a2)] []
  unfold f_X12_solveAll at hf
  refine s_aload_n C dX12_solveAll_0 rfl ?_
  refine s_iload_n C dX12_solveAll_1 rfl ?_
  refine s_putI C fl_X12_475 (by decide) dX12_solveAll_2 hf (fun h1 hf => ?_)
  refine s_aload_n C dX12_solveAll_5 rfl ?_
  refine s_iload_n C dX12_solveAll_6 rfl ?_
  refine s_callV (rvf := fun _ => none) (st := []) (fr := 0) (lo := 0) (mc := 0) (ms := 0) C [12] wc_X12_findLetters wml_X12_509 wim_X12_findLetters wsl_12_X12_findLetters dX12_solveAll_7 (As := [.inl a1]) rfl hf (fun x h' hF => c_X12_findLetters _ _ _ _ _ (x, h') hF) rfl (Nat.le_of_ble_eq_true rfl) (room_ok hX (Nat.le_of_ble_eq_true rfl) (Nat.le_of_ble_eq_true rfl)) (cell_ok hX (Nat.le_of_ble_eq_true rfl) (Nat.le_of_ble_eq_true rfl)) (fun _ h2 hf => ?_)
  refine s_aload_n C dX12_solveAll_10 rfl ?_
  refine s_iconst C dX12_solveAll_11 (v := (0 : Int32)) (by decide) ?_
  refine s_putI C fl_X12_490 (by decide) dX12_solveAll_12 hf (fun h3 hf => ?_)
  refine s_aload_n C dX12_solveAll_15 rfl ?_
  refine s_iload_n C dX12_solveAll_16 rfl ?_
  refine s_putI C fl_X12_493 (by decide) dX12_solveAll_17 hf (fun h4 hf => ?_)
  refine s_aload_n C dX12_solveAll_20 rfl ?_
  refine s_lconst C dX12_solveAll_21 (v := (0 : Int64)) (by decide) ?_
  refine s_putL C fl_X12_502 dX12_solveAll_22 hf (fun h5 hf => ?_)
  refine s_aload_n C dX12_solveAll_25 rfl ?_
  refine s_iconst C dX12_solveAll_26 (v := (0 : Int32)) (by decide) ?_
  refine s_iconst C dX12_solveAll_27 (v := (0 : Int32)) (by decide) ?_
  refine s_callV (rvf := fun _ => none) (st := []) (fr := 102) (lo := 6045) (mc := 0) (ms := 0) C [12] wc_X12_solveOn wml_X12_506 wim_X12_solveOn wsl_12_X12_solveOn dX12_solveAll_28 (As := [.inl (0 : Int32), .inl (0 : Int32)]) rfl hf (fun x h' hF => c_X12_solveOn _ _ _ _ _ _ (x, h') hF) rfl (Nat.le_of_ble_eq_true rfl) (room_ok hX (Nat.le_of_ble_eq_true rfl) (Nat.le_of_ble_eq_true rfl)) (cell_ok hX (Nat.le_of_ble_eq_true rfl) (Nat.le_of_ble_eq_true rfl)) (fun _ h6 hf => ?_)
  exact s_return C E dX12_solveAll_31 hf (Nat.le_of_ble_eq_true rfl) (Nat.le_of_ble_eq_true rfl)
/-- HillBoxesModel.others(II)J -/
noncomputable def f_X12_others (o : Option Nat) (a1 : Int32) (a2 : Int32) (h : AH) : Option (Int64 × AH) :=
  rO h [12] o <| cl (f_X12_isRiddle o a1 h) fun v2 h1 =>
  jn (fun (h3 : AH) =>
    some ((-9223372036854775808 : Int64), h3)) fun j16 =>
  if v2 = 0 then
    j16 h1
  else
    rO h1 [12] o <| cl (f_X12_isFinder o a2 h1) fun v5 h4 =>
    if v5 = 0 then
      j16 h4
    else
      fR h4 [12] o 8 fun v6 =>
      aI h4 20 v6 a1 fun v7 =>
      jn (fun (h8 : AH) =>
        some ((9223372036854775807 : Int64), h8)) fun j38 =>
      if v7 = a2 then
        rO h4 [12] o <| cl (f_X12_canSolve o a1 h4) fun v10 h9 =>
        if v10 = 0 then
          j38 h9
        else
          rO h9 [12] o <| cl (f_X12_solveAll o a1 (-1 : Int32) h9) fun _ h11 =>
          fL h11 [12] o 58 fun v12 =>
          some (v12, h11)
      else
        j38 h4
set_option maxRecDepth 100000 in
set_option maxHeartbeats 4000000 in
theorem c_X12_others (l : Launch) (D : DT) (o : Option Nat) (a1 : Int32) (a2 : Int32) (h : AH) (r : Int64 × AH) (hf : f_X12_others o a1 a2 h = some r) : CM l D yX12_others cX12_others 3 (some .long) 104 6091 0 0 [.inr (.inr o), .inl a1, .inl a2] h (some (.long r.1)) r.2 := by
  refine CM.of (by decide) (Nat.le_of_ble_eq_true rfl) (fun X hl C hD hX hnm E => ?_)
  subst hl
  subst hD
  have C : CX X RX12 cX12_others 3 := C
  show WW X h 0 0 0 [some (rB (xD X).1 o), some (.int a1), some (.int a2)] []
  unfold f_X12_others at hf
  refine s_aload_n C dX12_others_0 rfl ?_
  refine s_iload_n C dX12_others_1 rfl ?_
  refine s_callV (rvf := fun x => some (.int x)) (st := []) (fr := 2) (lo := 43) (mc := 0) (ms := 0) C [12] wc_X12_isRiddle wml_X12_463 wim_X12_isRiddle wsl_12_X12_isRiddle dX12_others_2 (As := [.inl a1]) rfl hf (fun x h' hF => c_X12_isRiddle _ _ _ _ _ (x, h') hF) rfl (Nat.le_of_ble_eq_true rfl) (room_ok hX (Nat.le_of_ble_eq_true rfl) (Nat.le_of_ble_eq_true rfl)) (cell_ok hX (Nat.le_of_ble_eq_true rfl) (Nat.le_of_ble_eq_true rfl)) (fun v2 h1 hf => ?_)
  refine s_jn hf (fun j16 e16 hf => ?_)
  have k16 : ∀ (h3 : AH), j16 h3 = some r → WW X h3 0 0 16 [none, none, none] [] := by
    intro h3 hf
    rw [e16] at hf
    refine s_ldc2 C dX12_others_16 wk_X12_520 ?_
    exact s_lreturn C E dX12_others_19 hf (Nat.le_of_ble_eq_true rfl) (Nat.le_of_ble_eq_true rfl)
  refine s_if_eq (tgt := 16) C dX12_others_5 (by decide) hf (fun hf => ?_) (fun hf => ?_)
  · refine s_weak (lv' := [none, none, none]) trivial ?_
    exact k16 _ hf
  · refine s_aload_n C dX12_others_8 rfl ?_
    refine s_iload_n C dX12_others_9 rfl ?_
    refine s_callV (rvf := fun x => some (.int x)) (st := []) (fr := 2) (lo := 43) (mc := 0) (ms := 0) C [12] wc_X12_isFinder wml_X12_230 wim_X12_isFinder wsl_12_X12_isFinder dX12_others_10 (As := [.inl a2]) rfl hf (fun x h' hF => c_X12_isFinder _ _ _ _ _ (x, h') hF) rfl (Nat.le_of_ble_eq_true rfl) (room_ok hX (Nat.le_of_ble_eq_true rfl) (Nat.le_of_ble_eq_true rfl)) (cell_ok hX (Nat.le_of_ble_eq_true rfl) (Nat.le_of_ble_eq_true rfl)) (fun v5 h4 hf => ?_)
    refine s_if_ne (tgt := 20) C dX12_others_13 (by decide) hf (fun hf => ?_) (fun hf => ?_)
    · refine s_aload_n C dX12_others_20 rfl ?_
      refine s_getR C fl_X12_25 dX12_others_21 hf (fun v6 hf => ?_)
      refine s_iload_n C dX12_others_24 rfl ?_
      refine s_iaload C dX12_others_25 hf (fun v7 hf => ?_)
      refine s_iload_n C dX12_others_26 rfl ?_
      refine s_jn hf (fun j38 e38 hf => ?_)
      have k38 : ∀ (h8 : AH), j38 h8 = some r → WW X h8 0 0 38 [none, none, none] [] := by
        intro h8 hf
        rw [e38] at hf
        refine s_ldc2 C dX12_others_38 wk_X12_522 ?_
        exact s_lreturn C E dX12_others_41 hf (Nat.le_of_ble_eq_true rfl) (Nat.le_of_ble_eq_true rfl)
      refine s_icmp_ne (tgt := 38) C dX12_others_27 (by decide) hf (fun hf => ?_) (fun hf => ?_)
      · refine s_weak (lv' := [none, none, none]) trivial ?_
        exact k38 _ hf
      · refine s_aload_n C dX12_others_30 rfl ?_
        refine s_iload_n C dX12_others_31 rfl ?_
        refine s_callV (rvf := fun x => some (.int x)) (st := []) (fr := 1) (lo := 23) (mc := 0) (ms := 0) C [12] wc_X12_canSolve wml_X12_512 wim_X12_canSolve wsl_12_X12_canSolve dX12_others_32 (As := [.inl a1]) rfl hf (fun x h' hF => c_X12_canSolve _ _ _ _ _ (x, h') hF) rfl (Nat.le_of_ble_eq_true rfl) (room_ok hX (Nat.le_of_ble_eq_true rfl) (Nat.le_of_ble_eq_true rfl)) (cell_ok hX (Nat.le_of_ble_eq_true rfl) (Nat.le_of_ble_eq_true rfl)) (fun v10 h9 hf => ?_)
        refine s_if_ne (tgt := 42) C dX12_others_35 (by decide) hf (fun hf => ?_) (fun hf => ?_)
        · refine s_aload_n C dX12_others_42 rfl ?_
          refine s_iload_n C dX12_others_43 rfl ?_
          refine s_iconst C dX12_others_44 (v := (-1 : Int32)) (by decide) ?_
          refine s_callV (rvf := fun _ => none) (st := []) (fr := 103) (lo := 6069) (mc := 0) (ms := 0) C [12] wc_X12_solveAll wml_X12_515 wim_X12_solveAll wsl_12_X12_solveAll dX12_others_45 (As := [.inl a1, .inl (-1 : Int32)]) rfl hf (fun x h' hF => c_X12_solveAll _ _ _ _ _ _ (x, h') hF) rfl (Nat.le_of_ble_eq_true rfl) (room_ok hX (Nat.le_of_ble_eq_true rfl) (Nat.le_of_ble_eq_true rfl)) (cell_ok hX (Nat.le_of_ble_eq_true rfl) (Nat.le_of_ble_eq_true rfl)) (fun _ h11 hf => ?_)
          refine s_aload_n C dX12_others_48 rfl ?_
          refine s_getL C fl_X12_502 dX12_others_49 hf (fun v12 hf => ?_)
          exact s_lreturn C E dX12_others_52 hf (Nat.le_of_ble_eq_true rfl) (Nat.le_of_ble_eq_true rfl)
        · refine s_weak (lv' := [none, none, none]) trivial ?_
          exact k38 _ hf
    · refine s_weak (lv' := [none, none, none]) trivial ?_
      exact k16 _ hf
/-- HillBoxesModel.owner(II)I -/
noncomputable def f_X12_owner (o : Option Nat) (a1 : Int32) (a2 : Int32) (h : AH) : Option (Int32 × AH) :=
  cl (f_X12_isCell a1 h) fun v2 h1 =>
  jn (fun (h3 : AH) =>
    some ((-2000000000 : Int32), h3)) fun j17 =>
  if v2 = 0 then
    j17 h1
  else
    cl (f_X12_in a2 (-1 : Int32) (9 : Int32) h1) fun v5 h4 =>
    if v5 = 0 then
      j17 h4
    else
      rO h4 [12] o <| cl (f_X12_ownerOf o a1 h4) fun v7 h6 =>
      fR h6 [12] o 2 fun v8 =>
      bI h6 20 v8 a1 (a2 + (1 : Int32)) fun h9 =>
      some (v7, h9)
set_option maxRecDepth 100000 in
set_option maxHeartbeats 4000000 in
theorem c_X12_owner (l : Launch) (D : DT) (o : Option Nat) (a1 : Int32) (a2 : Int32) (h : AH) (r : Int32 × AH) (hf : f_X12_owner o a1 a2 h = some r) : CM l D yX12_owner cX12_owner 4 (some .int) 2 42 0 0 [.inr (.inr o), .inl a1, .inl a2] h (some (.int r.1)) r.2 := by
  refine CM.of (by decide) (Nat.le_of_ble_eq_true rfl) (fun X hl C hD hX hnm E => ?_)
  subst hl
  subst hD
  have C : CX X RX12 cX12_owner 4 := C
  show WW X h 0 0 0 [some (rB (xD X).1 o), some (.int a1), some (.int a2), none] []
  unfold f_X12_owner at hf
  refine s_iload_n C dX12_owner_0 rfl ?_
  refine s_callS (rvf := fun x => some (.int x)) (st := []) (fr := 1) (lo := 22) (mc := 0) (ms := 0) C wc_X12_isCell wml_X12_206 wst_X12_isCell dX12_owner_1 (As := [.inl a1]) rfl hf (fun x h' hF => c_X12_isCell _ _ _ _ (x, h') hF) rfl (Nat.le_of_ble_eq_true rfl) (room_ok hX (Nat.le_of_ble_eq_true rfl) (Nat.le_of_ble_eq_true rfl)) (cell_ok hX (Nat.le_of_ble_eq_true rfl) (Nat.le_of_ble_eq_true rfl)) (fun v2 h1 hf => ?_)
  refine s_jn hf (fun j17 e17 hf => ?_)
  have k17 : ∀ (h3 : AH), j17 h3 = some r → WW X h3 0 0 17 [none, none, none, none] [] := by
    intro h3 hf
    rw [e17] at hf
    refine s_ldc C dX12_owner_17 wk_X12_210 ?_
    exact s_ireturn C E dX12_owner_19 hf (Nat.le_of_ble_eq_true rfl) (Nat.le_of_ble_eq_true rfl)
  refine s_if_eq (tgt := 17) C dX12_owner_4 (by decide) hf (fun hf => ?_) (fun hf => ?_)
  · refine s_weak (lv' := [none, none, none, none]) trivial ?_
    exact k17 _ hf
  · refine s_iload_n C dX12_owner_7 rfl ?_
    refine s_iconst C dX12_owner_8 (v := (-1 : Int32)) (by decide) ?_
    refine s_bipush C dX12_owner_9 (v := (9 : Int32)) (by decide) ?_
    refine s_callS (rvf := fun x => some (.int x)) (st := []) (fr := 0) (lo := 0) (mc := 0) (ms := 0) C wc_X12_in wml_X12_195 wst_X12_in dX12_owner_11 (As := [.inl a2, .inl (-1 : Int32), .inl (9 : Int32)]) rfl hf (fun x h' hF => c_X12_in _ _ _ _ _ _ (x, h') hF) rfl (Nat.le_of_ble_eq_true rfl) (room_ok hX (Nat.le_of_ble_eq_true rfl) (Nat.le_of_ble_eq_true rfl)) (cell_ok hX (Nat.le_of_ble_eq_true rfl) (Nat.le_of_ble_eq_true rfl)) (fun v5 h4 hf => ?_)
    refine s_if_ne (tgt := 20) C dX12_owner_14 (by decide) hf (fun hf => ?_) (fun hf => ?_)
    · refine s_aload_n C dX12_owner_20 rfl ?_
      refine s_iload_n C dX12_owner_21 rfl ?_
      refine s_callV (rvf := fun x => some (.int x)) (st := []) (fr := 0) (lo := 0) (mc := 0) (ms := 0) C [12] wc_X12_ownerOf wml_X12_211 wim_X12_ownerOf wsl_12_X12_ownerOf dX12_owner_22 (As := [.inl a1]) rfl hf (fun x h' hF => c_X12_ownerOf _ _ _ _ _ (x, h') hF) rfl (Nat.le_of_ble_eq_true rfl) (room_ok hX (Nat.le_of_ble_eq_true rfl) (Nat.le_of_ble_eq_true rfl)) (cell_ok hX (Nat.le_of_ble_eq_true rfl) (Nat.le_of_ble_eq_true rfl)) (fun v7 h6 hf => ?_)
      refine s_istore_n C dX12_owner_25 (by decide) (nc_i rfl) (lv' := [some (rB (xD X).1 o), some (.int a1), some (.int a2), some (.int v7)]) rfl ?_
      refine s_aload_n C dX12_owner_26 rfl ?_
      refine s_getR C fl_X12_7 dX12_owner_27 hf (fun v8 hf => ?_)
      refine s_iload_n C dX12_owner_30 rfl ?_
      refine s_iload_n C dX12_owner_31 rfl ?_
      refine s_iconst C dX12_owner_32 (v := (1 : Int32)) (by decide) ?_
      refine s_iadd C dX12_owner_33 ?_
      refine s_iastore C dX12_owner_34 hf (fun h9 hf => ?_)
      refine s_iload_n C dX12_owner_35 rfl ?_
      exact s_ireturn C E dX12_owner_36 hf (Nat.le_of_ble_eq_true rfl) (Nat.le_of_ble_eq_true rfl)
    · refine s_weak (lv' := [none, none, none, none]) trivial ?_
      exact k17 _ hf
/-- HillBoxesModel.paper(IIII)I -/
noncomputable def f_X12_paper (o : Option Nat) (a1 : Int32) (a2 : Int32) (a3 : Int32) (a4 : Int32) (h : AH) : Option (Int32 × AH) :=
  rO h [12] o <| cl (f_X12_isBox o a1 h) fun v2 h1 =>
  jn (fun (h3 : AH) =>
    some ((-1 : Int32), h3)) fun j26 =>
  if v2 = 0 then
    j26 h1
  else
    cl (f_X12_isShelf a2 h1) fun v5 h4 =>
    if v5 = 0 then
      j26 h4
    else
      cl (f_X12_in a4 (1 : Int32) (40 : Int32) h4) fun v7 h6 =>
      if v7 = 0 then
        j26 h6
      else
        fR h6 [12] o 86 fun v8 =>
        aI h6 20 v8 a2 fun v9 =>
        jn (
          fR h6 [12] o 22 fun v10 =>
          bI h6 20 v10 a1 (0 : Int32) fun h11 =>
          fR h11 [12] o 86 fun v12 =>
          aI h11 20 v12 a2 fun v13 =>
          if v13 = (-1 : Int32) then
            some ((0 : Int32), h11)
          else
            lp (fun _ _ => none) (fun (L74 : Int32 → AH → Option (Int32 × AH)) (x14 : Int32) (h15 : AH) =>
              jn (fun (h16 : AH) =>
                fR h16 [12] o 22 fun v17 =>
                aI h16 20 v17 a1 fun v18 =>
                some (v18, h16)) fun j176 =>
              if a4 ≤ x14 then
                j176 h15
              else
                if (lg_cmp (a3.toInt64 + x14.toInt64) (0 : Int64)) < 0 then
                  j176 h15
                else
                  fR h15 [12] o 87 fun v19 =>
                  aI h15 20 v19 a2 fun v20 =>
                  if 0 ≤ (lg_cmp (a3.toInt64 + x14.toInt64) v20.toInt64) then
                    j176 h15
                  else
                    fR h15 [12] o 88 fun v21 =>
                    aL h15 24 v21 (((60 : Int32) * a2) + ((a3.toInt64 + x14.toInt64).toInt32)) fun v22 =>
                    rO h15 [12] o <| cl (f_X12_isFinder o v22.toInt32 h15) fun v24 h23 =>
                    if v24 = 0 then
                      j176 h23
                    else
                      fR h23 [12] o 23 fun v25 =>
                      fR h23 [12] o 88 fun v26 =>
                      aL h23 24 v26 (((60 : Int32) * a2) + ((a3.toInt64 + x14.toInt64).toInt32)) fun v27 =>
                      bI h23 21 v25 (((40 : Int32) * a1) + x14) (v27.toInt32.toInt16.toInt32.toInt16.toInt32) fun h28 =>
                      fR h28 [12] o 22 fun v29 =>
                      aI h28 20 v29 a1 fun v30 =>
                      bI h28 20 v29 a1 (v30 + (1 : Int32)) fun h31 =>
                      L74 (x14 + 1) h31) lpN (0 : Int32) h11) fun j52 =>
        if v9 = (-1 : Int32) then
          j52
        else
          fR h6 [12] o 86 fun v32 =>
          aI h6 20 v32 a2 fun v33 =>
          if v33 = (-3 : Int32) then
            j52
          else
            some ((-12 : Int32), h6)
set_option maxRecDepth 100000 in
set_option maxHeartbeats 4000000 in
theorem c_X12_paper (l : Launch) (D : DT) (o : Option Nat) (a1 : Int32) (a2 : Int32) (a3 : Int32) (a4 : Int32) (h : AH) (r : Int32 × AH) (hf : f_X12_paper o a1 a2 a3 a4 h = some r) : CM l D yX12_paper cX12_paper 8 (some .int) 3 64 0 0 [.inr (.inr o), .inl a1, .inl a2, .inl a3, .inl a4] h (some (.int r.1)) r.2 := by
  refine CM.of (by decide) (Nat.le_of_ble_eq_true rfl) (fun X hl C hD hX hnm E => ?_)
  subst hl
  subst hD
  have C : CX X RX12 cX12_paper 8 := C
  show WW X h 0 0 0 [some (rB (xD X).1 o), some (.int a1), some (.int a2), some (.int a3), some (.int a4), none, none, none] []
  unfold f_X12_paper at hf
  refine s_aload_n C dX12_paper_0 rfl ?_
  refine s_iload_n C dX12_paper_1 rfl ?_
  refine s_callV (rvf := fun x => some (.int x)) (st := []) (fr := 2) (lo := 43) (mc := 0) (ms := 0) C [12] wc_X12_isBox wml_X12_224 wim_X12_isBox wsl_12_X12_isBox dX12_paper_2 (As := [.inl a1]) rfl hf (fun x h' hF => c_X12_isBox _ _ _ _ _ (x, h') hF) rfl (Nat.le_of_ble_eq_true rfl) (room_ok hX (Nat.le_of_ble_eq_true rfl) (Nat.le_of_ble_eq_true rfl)) (cell_ok hX (Nat.le_of_ble_eq_true rfl) (Nat.le_of_ble_eq_true rfl)) (fun v2 h1 hf => ?_)
  refine s_jn hf (fun j26 e26 hf => ?_)
  have k26 : ∀ (h3 : AH), j26 h3 = some r → WW X h3 0 0 26 [none, none, none, none, none, none, none, none] [] := by
    intro h3 hf
    rw [e26] at hf
    refine s_iconst C dX12_paper_26 (v := (-1 : Int32)) (by decide) ?_
    exact s_ireturn C E dX12_paper_27 hf (Nat.le_of_ble_eq_true rfl) (Nat.le_of_ble_eq_true rfl)
  refine s_if_eq (tgt := 26) C dX12_paper_5 (by decide) hf (fun hf => ?_) (fun hf => ?_)
  · refine s_weak (lv' := [none, none, none, none, none, none, none, none]) trivial ?_
    exact k26 _ hf
  · refine s_iload_n C dX12_paper_8 rfl ?_
    refine s_callS (rvf := fun x => some (.int x)) (st := []) (fr := 1) (lo := 22) (mc := 0) (ms := 0) C wc_X12_isShelf wml_X12_276 wst_X12_isShelf dX12_paper_9 (As := [.inl a2]) rfl hf (fun x h' hF => c_X12_isShelf _ _ _ _ (x, h') hF) rfl (Nat.le_of_ble_eq_true rfl) (room_ok hX (Nat.le_of_ble_eq_true rfl) (Nat.le_of_ble_eq_true rfl)) (cell_ok hX (Nat.le_of_ble_eq_true rfl) (Nat.le_of_ble_eq_true rfl)) (fun v5 h4 hf => ?_)
    refine s_if_eq (tgt := 26) C dX12_paper_12 (by decide) hf (fun hf => ?_) (fun hf => ?_)
    · refine s_weak (lv' := [none, none, none, none, none, none, none, none]) trivial ?_
      exact k26 _ hf
    · refine s_iload C dX12_paper_15 rfl ?_
      refine s_iconst C dX12_paper_17 (v := (1 : Int32)) (by decide) ?_
      refine s_bipush C dX12_paper_18 (v := (40 : Int32)) (by decide) ?_
      refine s_callS (rvf := fun x => some (.int x)) (st := []) (fr := 0) (lo := 0) (mc := 0) (ms := 0) C wc_X12_in wml_X12_195 wst_X12_in dX12_paper_20 (As := [.inl a4, .inl (1 : Int32), .inl (40 : Int32)]) rfl hf (fun x h' hF => c_X12_in _ _ _ _ _ _ (x, h') hF) rfl (Nat.le_of_ble_eq_true rfl) (room_ok hX (Nat.le_of_ble_eq_true rfl) (Nat.le_of_ble_eq_true rfl)) (cell_ok hX (Nat.le_of_ble_eq_true rfl) (Nat.le_of_ble_eq_true rfl)) (fun v7 h6 hf => ?_)
      refine s_if_ne (tgt := 28) C dX12_paper_23 (by decide) hf (fun hf => ?_) (fun hf => ?_)
      · refine s_aload_n C dX12_paper_28 rfl ?_
        refine s_getR C fl_X12_180 dX12_paper_29 hf (fun v8 hf => ?_)
        refine s_iload_n C dX12_paper_32 rfl ?_
        refine s_iaload C dX12_paper_33 hf (fun v9 hf => ?_)
        refine s_iconst C dX12_paper_34 (v := (-1 : Int32)) (by decide) ?_
        refine s_jn hf (fun j52 e52 hf => ?_)
        have k52 : j52  = some r → WW X h6 0 0 52 [some (rB (xD X).1 o), some (.int a1), some (.int a2), some (.int a3), some (.int a4), none, none, none] [] := by
          intro  hf
          rw [e52] at hf
          refine s_aload_n C dX12_paper_52 rfl ?_
          refine s_getR C fl_X12_59 dX12_paper_53 hf (fun v10 hf => ?_)
          refine s_iload_n C dX12_paper_56 rfl ?_
          refine s_iconst C dX12_paper_57 (v := (0 : Int32)) (by decide) ?_
          refine s_iastore C dX12_paper_58 hf (fun h11 hf => ?_)
          refine s_aload_n C dX12_paper_59 rfl ?_
          refine s_getR C fl_X12_180 dX12_paper_60 hf (fun v12 hf => ?_)
          refine s_iload_n C dX12_paper_63 rfl ?_
          refine s_iaload C dX12_paper_64 hf (fun v13 hf => ?_)
          refine s_iconst C dX12_paper_65 (v := (-1 : Int32)) (by decide) ?_
          refine s_icmp_ne (tgt := 71) C dX12_paper_66 (by decide) hf (fun hf => ?_) (fun hf => ?_)
          · refine s_iconst C dX12_paper_71 (v := (0 : Int32)) (by decide) ?_
            refine s_istore C dX12_paper_72 (by decide) (nc_i rfl) (lv' := [some (rB (xD X).1 o), some (.int a1), some (.int a2), some (.int a3), some (.int a4), some (.int (0 : Int32)), none, none]) rfl ?_
            refine s_lp2 hf (fun G74 z74 q74 hf => ?_)
            have k74 : ∀ (n : Nat) (x14 : Int32) (h15 : AH), G74 n x14 h15 = some r → WW X h15 0 0 74 [some (rB (xD X).1 o), some (.int a1), some (.int a2), some (.int a3), some (.int a4), some (.int x14), none, none] [] := by
              intro n
              induction n with
              | zero =>
                intro x14 h15 hf
                rw [z74] at hf
                cases hf
              | succ n ih74 =>
                intro x14 h15 hf
                have hf := (q74 n x14 h15).symm.trans hf
                refine s_iload C dX12_paper_74 rfl ?_
                refine s_iload C dX12_paper_76 rfl ?_
                refine s_jn hf (fun j176 e176 hf => ?_)
                have k176 : ∀ (h16 : AH), j176 h16 = some r → WW X h16 0 0 176 [some (rB (xD X).1 o), some (.int a1), none, none, none, none, none, none] [] := by
                  intro h16 hf
                  rw [e176] at hf
                  refine s_aload_n C dX12_paper_176 rfl ?_
                  refine s_getR C fl_X12_59 dX12_paper_177 hf (fun v17 hf => ?_)
                  refine s_iload_n C dX12_paper_180 rfl ?_
                  refine s_iaload C dX12_paper_181 hf (fun v18 hf => ?_)
                  exact s_ireturn C E dX12_paper_182 hf (Nat.le_of_ble_eq_true rfl) (Nat.le_of_ble_eq_true rfl)
                refine s_icmp_ge (tgt := 176) C dX12_paper_78 (by decide) hf (fun hf => ?_) (fun hf => ?_)
                · refine s_weak (lv' := [some (rB (xD X).1 o), some (.int a1), none, none, none, none, none, none]) ⟨rfl, ⟨rfl, trivial⟩⟩ ?_
                  exact k176 _ hf
                · refine s_iload_n C dX12_paper_81 rfl ?_
                  refine s_i2l C dX12_paper_82 ?_
                  refine s_iload C dX12_paper_83 rfl ?_
                  refine s_i2l C dX12_paper_85 ?_
                  refine s_ladd C dX12_paper_86 ?_
                  refine s_lstore C dX12_paper_87 (by decide) (nc_i rfl) (lv' := [some (rB (xD X).1 o), some (.int a1), some (.int a2), some (.int a3), some (.int a4), some (.int x14), some (.long (a3.toInt64 + x14.toInt64)), none]) rfl ?_
                  refine s_lload C dX12_paper_89 rfl ?_
                  refine s_lconst C dX12_paper_91 (v := (0 : Int64)) (by decide) ?_
                  refine s_lcmp C dX12_paper_92 ?_
                  refine s_if_lt (tgt := 176) C dX12_paper_93 (by decide) hf (fun hf => ?_) (fun hf => ?_)
                  · refine s_weak (lv' := [some (rB (xD X).1 o), some (.int a1), none, none, none, none, none, none]) ⟨rfl, ⟨rfl, trivial⟩⟩ ?_
                    exact k176 _ hf
                  · refine s_lload C dX12_paper_96 rfl ?_
                    refine s_aload_n C dX12_paper_98 rfl ?_
                    refine s_getR C fl_X12_183 dX12_paper_99 hf (fun v19 hf => ?_)
                    refine s_iload_n C dX12_paper_102 rfl ?_
                    refine s_iaload C dX12_paper_103 hf (fun v20 hf => ?_)
                    refine s_i2l C dX12_paper_104 ?_
                    refine s_lcmp C dX12_paper_105 ?_
                    refine s_if_ge (tgt := 176) C dX12_paper_106 (by decide) hf (fun hf => ?_) (fun hf => ?_)
                    · refine s_weak (lv' := [some (rB (xD X).1 o), some (.int a1), none, none, none, none, none, none]) ⟨rfl, ⟨rfl, trivial⟩⟩ ?_
                      exact k176 _ hf
                    · refine s_aload_n C dX12_paper_109 rfl ?_
                      refine s_aload_n C dX12_paper_110 rfl ?_
                      refine s_getR C fl_X12_186 dX12_paper_111 hf (fun v21 hf => ?_)
                      refine s_bipush C dX12_paper_114 (v := (60 : Int32)) (by decide) ?_
                      refine s_iload_n C dX12_paper_116 rfl ?_
                      refine s_imul C dX12_paper_117 ?_
                      refine s_lload C dX12_paper_118 rfl ?_
                      refine s_l2i C dX12_paper_120 ?_
                      refine s_iadd C dX12_paper_121 ?_
                      refine s_laload C dX12_paper_122 hf (fun v22 hf => ?_)
                      refine s_l2i C dX12_paper_123 ?_
                      refine s_callV (rvf := fun x => some (.int x)) (st := []) (fr := 2) (lo := 43) (mc := 0) (ms := 0) C [12] wc_X12_isFinder wml_X12_230 wim_X12_isFinder wsl_12_X12_isFinder dX12_paper_124 (As := [.inl v22.toInt32]) rfl hf (fun x h' hF => c_X12_isFinder _ _ _ _ _ (x, h') hF) rfl (Nat.le_of_ble_eq_true rfl) (room_ok hX (Nat.le_of_ble_eq_true rfl) (Nat.le_of_ble_eq_true rfl)) (cell_ok hX (Nat.le_of_ble_eq_true rfl) (Nat.le_of_ble_eq_true rfl)) (fun v24 h23 hf => ?_)
                      refine s_if_ne (tgt := 133) C dX12_paper_127 (by decide) hf (fun hf => ?_) (fun hf => ?_)
                      · refine s_aload_n C dX12_paper_133 rfl ?_
                        refine s_getR C fl_X12_62 dX12_paper_134 hf (fun v25 hf => ?_)
                        refine s_bipush C dX12_paper_137 (v := (40 : Int32)) (by decide) ?_
                        refine s_iload_n C dX12_paper_139 rfl ?_
                        refine s_imul C dX12_paper_140 ?_
                        refine s_iload C dX12_paper_141 rfl ?_
                        refine s_iadd C dX12_paper_143 ?_
                        refine s_aload_n C dX12_paper_144 rfl ?_
                        refine s_getR C fl_X12_186 dX12_paper_145 hf (fun v26 hf => ?_)
                        refine s_bipush C dX12_paper_148 (v := (60 : Int32)) (by decide) ?_
                        refine s_iload_n C dX12_paper_150 rfl ?_
                        refine s_imul C dX12_paper_151 ?_
                        refine s_lload C dX12_paper_152 rfl ?_
                        refine s_l2i C dX12_paper_154 ?_
                        refine s_iadd C dX12_paper_155 ?_
                        refine s_laload C dX12_paper_156 hf (fun v27 hf => ?_)
                        refine s_l2i C dX12_paper_157 ?_
                        refine s_i2s C dX12_paper_158 ?_
                        refine s_sastore C dX12_paper_159 hf (fun h28 hf => ?_)
                        refine s_aload_n C dX12_paper_160 rfl ?_
                        refine s_getR C fl_X12_59 dX12_paper_161 hf (fun v29 hf => ?_)
                        refine s_iload_n C dX12_paper_164 rfl ?_
                        refine s_dup2 C dX12_paper_165 c1_i c1_r ?_
                        refine s_iaload C dX12_paper_166 hf (fun v30 hf => ?_)
                        refine s_iconst C dX12_paper_167 (v := (1 : Int32)) (by decide) ?_
                        refine s_iadd C dX12_paper_168 ?_
                        refine s_iastore C dX12_paper_169 hf (fun h31 hf => ?_)
                        refine s_iinc C dX12_paper_170 (v := (x14 + 1)) rfl rfl (by decide) (nc_i rfl) (lv' := [some (rB (xD X).1 o), some (.int a1), some (.int a2), some (.int a3), some (.int a4), some (.int (x14 + 1)), some (.long (a3.toInt64 + x14.toInt64)), none]) rfl ?_
                        refine s_goto (tgt := 74) C dX12_paper_173 (by decide) ?_
                        refine s_weak (lv' := [some (rB (xD X).1 o), some (.int a1), some (.int a2), some (.int a3), some (.int a4), some (.int (x14 + 1)), none, none]) ⟨rfl, ⟨rfl, ⟨rfl, ⟨rfl, ⟨rfl, ⟨rfl, trivial⟩⟩⟩⟩⟩⟩ ?_
                        exact ih74 _ _ hf
                      · refine s_goto (tgt := 176) C dX12_paper_130 (by decide) ?_
                        refine s_weak (lv' := [some (rB (xD X).1 o), some (.int a1), none, none, none, none, none, none]) ⟨rfl, ⟨rfl, trivial⟩⟩ ?_
                        exact k176 _ hf
            exact k74 lpN _ _ hf
          · refine s_iconst C dX12_paper_69 (v := (0 : Int32)) (by decide) ?_
            exact s_ireturn C E dX12_paper_70 hf (Nat.le_of_ble_eq_true rfl) (Nat.le_of_ble_eq_true rfl)
        refine s_icmp_eq (tgt := 52) C dX12_paper_35 (by decide) hf (fun hf => ?_) (fun hf => ?_)
        · exact k52 hf
        · refine s_aload_n C dX12_paper_38 rfl ?_
          refine s_getR C fl_X12_180 dX12_paper_39 hf (fun v32 hf => ?_)
          refine s_iload_n C dX12_paper_42 rfl ?_
          refine s_iaload C dX12_paper_43 hf (fun v33 hf => ?_)
          refine s_bipush C dX12_paper_44 (v := (-3 : Int32)) (by decide) ?_
          refine s_icmp_eq (tgt := 52) C dX12_paper_46 (by decide) hf (fun hf => ?_) (fun hf => ?_)
          · exact k52 hf
          · refine s_bipush C dX12_paper_49 (v := (-12 : Int32)) (by decide) ?_
            exact s_ireturn C E dX12_paper_51 hf (Nat.le_of_ble_eq_true rfl) (Nat.le_of_ble_eq_true rfl)
      · refine s_weak (lv' := [none, none, none, none, none, none, none, none]) trivial ?_
        exact k26 _ hf
/-- HillBoxesModel.put(IIJ)I -/
noncomputable def f_X12_put (o : Option Nat) (a1 : Int32) (a2 : Int32) (a3 : Int64) (h : AH) : Option (Int32 × AH) :=
  rO h [12] o <| cl (f_X12_whyNoPlace o a1 a2 h) fun v2 h1 =>
  if 0 ≤ v2 then
    fR h1 [12] o 86 fun v3 =>
    aI h1 20 v3 a1 fun v4 =>
    fR h1 [12] o 88 fun v5 =>
    jn (fun (x6 : Int64) =>
      bL h1 24 v5 (((60 : Int32) * a1) + a2) x6 fun h7 =>
      some ((1 : Int32), h7)) fun j95 =>
    if ((-2 : Int32) - v4) = 0 then
      j95 a3.toInt32.toInt8.toInt32.toInt64
    else
      if ((-2 : Int32) - v4) = (1 : Int32) then
        j95 a3.toInt32.toInt16.toInt32.toInt64
      else
        if ((-2 : Int32) - v4) = (2 : Int32) then
          j95 a3.toInt32.toInt64
        else
          if ((-2 : Int32) - v4) = (3 : Int32) then
            j95 a3
          else
            if (lg_cmp a3 (0 : Int64)) = 0 then
              j95 (0 : Int64)
            else
              j95 (1 : Int64)
  else
    some (v2, h1)
set_option maxRecDepth 100000 in
set_option maxHeartbeats 4000000 in
theorem c_X12_put (l : Launch) (D : DT) (o : Option Nat) (a1 : Int32) (a2 : Int32) (a3 : Int64) (h : AH) (r : Int32 × AH) (hf : f_X12_put o a1 a2 a3 h = some r) : CM l D yX12_put cX12_put 7 (some .int) 3 64 0 0 [.inr (.inr o), .inl a1, .inl a2, .inr (.inl a3)] h (some (.int r.1)) r.2 := by
  refine CM.of (by decide) (Nat.le_of_ble_eq_true rfl) (fun X hl C hD hX hnm E => ?_)
  subst hl
  subst hD
  have C : CX X RX12 cX12_put 7 := C
  show WW X h 0 0 0 [some (rB (xD X).1 o), some (.int a1), some (.int a2), some (.long a3), none, none, none] []
  unfold f_X12_put at hf
  refine s_aload_n C dX12_put_0 rfl ?_
  refine s_iload_n C dX12_put_1 rfl ?_
  refine s_iload_n C dX12_put_2 rfl ?_
  refine s_callV (rvf := fun x => some (.int x)) (st := []) (fr := 2) (lo := 42) (mc := 0) (ms := 0) C [12] wc_X12_whyNoPlace wml_X12_622 wim_X12_whyNoPlace wsl_12_X12_whyNoPlace dX12_put_3 (As := [.inl a1, .inl a2]) rfl hf (fun x h' hF => c_X12_whyNoPlace _ _ _ _ _ _ (x, h') hF) rfl (Nat.le_of_ble_eq_true rfl) (room_ok hX (Nat.le_of_ble_eq_true rfl) (Nat.le_of_ble_eq_true rfl)) (cell_ok hX (Nat.le_of_ble_eq_true rfl) (Nat.le_of_ble_eq_true rfl)) (fun v2 h1 hf => ?_)
  refine s_istore C dX12_put_6 (by decide) (nc_n rfl) (lv' := [some (rB (xD X).1 o), some (.int a1), some (.int a2), some (.long a3), none, some (.int v2), none]) rfl ?_
  refine s_iload C dX12_put_8 rfl ?_
  refine s_if_ge (tgt := 16) C dX12_put_10 (by decide) hf (fun hf => ?_) (fun hf => ?_)
  · refine s_bipush C dX12_put_16 (v := (-2 : Int32)) (by decide) ?_
    refine s_aload_n C dX12_put_18 rfl ?_
    refine s_getR C fl_X12_180 dX12_put_19 hf (fun v3 hf => ?_)
    refine s_iload_n C dX12_put_22 rfl ?_
    refine s_iaload C dX12_put_23 hf (fun v4 hf => ?_)
    refine s_isub C dX12_put_24 ?_
    refine s_istore C dX12_put_25 (by decide) (nc_i rfl) (lv' := [some (rB (xD X).1 o), some (.int a1), some (.int a2), some (.long a3), none, some (.int v2), some (.int ((-2 : Int32) - v4))]) rfl ?_
    refine s_aload_n C dX12_put_27 rfl ?_
    refine s_getR C fl_X12_186 dX12_put_28 hf (fun v5 hf => ?_)
    refine s_bipush C dX12_put_31 (v := (60 : Int32)) (by decide) ?_
    refine s_iload_n C dX12_put_33 rfl ?_
    refine s_imul C dX12_put_34 ?_
    refine s_iload_n C dX12_put_35 rfl ?_
    refine s_iadd C dX12_put_36 ?_
    refine s_iload C dX12_put_37 rfl ?_
    refine s_jn hf (fun j95 e95 hf => ?_)
    have k95 : ∀ (x6 : Int64), j95 x6 = some r → WW X h1 0 0 95 [none, none, none, none, none, none, none] [.long x6, .int (((60 : Int32) * a1) + a2), rB (xD X).1 v5] := by
      intro x6 hf
      rw [e95] at hf
      refine s_lastore C dX12_put_95 hf (fun h7 hf => ?_)
      refine s_iconst C dX12_put_96 (v := (1 : Int32)) (by decide) ?_
      exact s_ireturn C E dX12_put_97 hf (Nat.le_of_ble_eq_true rfl) (Nat.le_of_ble_eq_true rfl)
    refine s_if_ne (tgt := 49) C dX12_put_39 (by decide) hf (fun hf => ?_) (fun hf => ?_)
    · refine s_iload C dX12_put_49 rfl ?_
      refine s_iconst C dX12_put_51 (v := (1 : Int32)) (by decide) ?_
      refine s_icmp_ne (tgt := 62) C dX12_put_52 (by decide) hf (fun hf => ?_) (fun hf => ?_)
      · refine s_iload C dX12_put_62 rfl ?_
        refine s_iconst C dX12_put_64 (v := (2 : Int32)) (by decide) ?_
        refine s_icmp_ne (tgt := 74) C dX12_put_65 (by decide) hf (fun hf => ?_) (fun hf => ?_)
        · refine s_iload C dX12_put_74 rfl ?_
          refine s_iconst C dX12_put_76 (v := (3 : Int32)) (by decide) ?_
          refine s_icmp_ne (tgt := 84) C dX12_put_77 (by decide) hf (fun hf => ?_) (fun hf => ?_)
          · refine s_lload_n C dX12_put_84 rfl ?_
            refine s_lconst C dX12_put_85 (v := (0 : Int64)) (by decide) ?_
            refine s_lcmp C dX12_put_86 ?_
            refine s_if_eq (tgt := 94) C dX12_put_87 (by decide) hf (fun hf => ?_) (fun hf => ?_)
            · refine s_lconst C dX12_put_94 (v := (0 : Int64)) (by decide) ?_
              refine s_weak (lv' := [none, none, none, none, none, none, none]) trivial ?_
              exact k95 _ hf
            · refine s_lconst C dX12_put_90 (v := (1 : Int64)) (by decide) ?_
              refine s_goto (tgt := 95) C dX12_put_91 (by decide) ?_
              refine s_weak (lv' := [none, none, none, none, none, none, none]) trivial ?_
              exact k95 _ hf
          · refine s_lload_n C dX12_put_80 rfl ?_
            refine s_goto (tgt := 95) C dX12_put_81 (by decide) ?_
            refine s_weak (lv' := [none, none, none, none, none, none, none]) trivial ?_
            exact k95 _ hf
        · refine s_lload_n C dX12_put_68 rfl ?_
          refine s_l2i C dX12_put_69 ?_
          refine s_i2l C dX12_put_70 ?_
          refine s_goto (tgt := 95) C dX12_put_71 (by decide) ?_
          refine s_weak (lv' := [none, none, none, none, none, none, none]) trivial ?_
          exact k95 _ hf
      · refine s_lload_n C dX12_put_55 rfl ?_
        refine s_l2i C dX12_put_56 ?_
        refine s_i2s C dX12_put_57 ?_
        refine s_i2l C dX12_put_58 ?_
        refine s_goto (tgt := 95) C dX12_put_59 (by decide) ?_
        refine s_weak (lv' := [none, none, none, none, none, none, none]) trivial ?_
        exact k95 _ hf
    · refine s_lload_n C dX12_put_42 rfl ?_
      refine s_l2i C dX12_put_43 ?_
      refine s_i2b C dX12_put_44 ?_
      refine s_i2l C dX12_put_45 ?_
      refine s_goto (tgt := 95) C dX12_put_46 (by decide) ?_
      refine s_weak (lv' := [none, none, none, none, none, none, none]) trivial ?_
      exact k95 _ hf
  · refine s_iload C dX12_put_13 rfl ?_
    exact s_ireturn C E dX12_put_15 hf (Nat.le_of_ble_eq_true rfl) (Nat.le_of_ble_eq_true rfl)
/-- HillBoxesModel.downOf(I)I -/
noncomputable def f_X12_downOf (o : Option Nat) (a1 : Int32) (h : AH) : Option (Int32 × AH) :=
  fI h [12] o 1 fun v1 =>
  rO h [12] o <| cl (f_X12_findDay o v1 h) fun _ h2 =>
  fI h2 [12] o 1 fun v3 =>
  rO h2 [12] o <| cl (f_X12_findBox o a1 v3 h2) fun _ h4 =>
  fI h4 [12] o 1 fun v5 =>
  fI h4 [12] o 1 fun v6 =>
  rO h4 [12] o <| cl (f_X12_lawBy o (3 : Int32) v5 v6 (0 : Int32) h4) fun v8 h7 =>
  some (v8, h7)
set_option maxRecDepth 100000 in
set_option maxHeartbeats 4000000 in
theorem c_X12_downOf (l : Launch) (D : DT) (o : Option Nat) (a1 : Int32) (h : AH) (r : Int32 × AH) (hf : f_X12_downOf o a1 h = some r) : CM l D yX12_downOf cX12_downOf 2 (some .int) 4 97 0 0 [.inr (.inr o), .inl a1] h (some (.int r.1)) r.2 := by
  refine CM.of (by decide) (Nat.le_of_ble_eq_true rfl) (fun X hl C hD hX hnm E => ?_)
  subst hl
  subst hD
  have C : CX X RX12 cX12_downOf 2 := C
  show WW X h 0 0 0 [some (rB (xD X).1 o), some (.int a1)] []
  unfold f_X12_downOf at hf
  refine s_aload_n C dX12_downOf_0 rfl ?_
  refine s_aload_n C dX12_downOf_1 rfl ?_
  refine s_getI C fl_X12_203 dX12_downOf_2 hf (fun v1 hf => ?_)
  refine s_callV (rvf := fun _ => none) (st := []) (fr := 0) (lo := 0) (mc := 0) (ms := 0) C [12] wc_X12_findDay wml_X12_438 wim_X12_findDay wsl_12_X12_findDay dX12_downOf_5 (As := [.inl v1]) rfl hf (fun x h' hF => c_X12_findDay _ _ _ _ _ (x, h') hF) rfl (Nat.le_of_ble_eq_true rfl) (room_ok hX (Nat.le_of_ble_eq_true rfl) (Nat.le_of_ble_eq_true rfl)) (cell_ok hX (Nat.le_of_ble_eq_true rfl) (Nat.le_of_ble_eq_true rfl)) (fun _ h2 hf => ?_)
  refine s_aload_n C dX12_downOf_8 rfl ?_
  refine s_iload_n C dX12_downOf_9 rfl ?_
  refine s_aload_n C dX12_downOf_10 rfl ?_
  refine s_getI C fl_X12_203 dX12_downOf_11 hf (fun v3 hf => ?_)
  refine s_callV (rvf := fun _ => none) (st := []) (fr := 3) (lo := 69) (mc := 0) (ms := 0) C [12] wc_X12_findBox wml_X12_292 wim_X12_findBox wsl_12_X12_findBox dX12_downOf_14 (As := [.inl a1, .inl v3]) rfl hf (fun x h' hF => c_X12_findBox _ _ _ _ _ _ (x, h') hF) rfl (Nat.le_of_ble_eq_true rfl) (room_ok hX (Nat.le_of_ble_eq_true rfl) (Nat.le_of_ble_eq_true rfl)) (cell_ok hX (Nat.le_of_ble_eq_true rfl) (Nat.le_of_ble_eq_true rfl)) (fun _ h4 hf => ?_)
  refine s_aload_n C dX12_downOf_17 rfl ?_
  refine s_iconst C dX12_downOf_18 (v := (3 : Int32)) (by decide) ?_
  refine s_aload_n C dX12_downOf_19 rfl ?_
  refine s_getI C fl_X12_203 dX12_downOf_20 hf (fun v5 hf => ?_)
  refine s_aload_n C dX12_downOf_23 rfl ?_
  refine s_getI C fl_X12_203 dX12_downOf_24 hf (fun v6 hf => ?_)
  refine s_iconst C dX12_downOf_27 (v := (0 : Int32)) (by decide) ?_
  refine s_callV (rvf := fun x => some (.int x)) (st := []) (fr := 3) (lo := 72) (mc := 0) (ms := 0) C [12] wc_X12_lawBy wml_X12_301 wim_X12_lawBy wsl_12_X12_lawBy dX12_downOf_28 (As := [.inl (3 : Int32), .inl v5, .inl v6, .inl (0 : Int32)]) rfl hf (fun x h' hF => c_X12_lawBy _ _ _ _ _ _ _ _ (x, h') hF) rfl (Nat.le_of_ble_eq_true rfl) (room_ok hX (Nat.le_of_ble_eq_true rfl) (Nat.le_of_ble_eq_true rfl)) (cell_ok hX (Nat.le_of_ble_eq_true rfl) (Nat.le_of_ble_eq_true rfl)) (fun v8 h7 hf => ?_)
  exact s_ireturn C E dX12_downOf_31 hf (Nat.le_of_ble_eq_true rfl) (Nat.le_of_ble_eq_true rfl)
/-- HillBoxesModel.putAll()I -/
noncomputable def f_X12_putAll (o : Option Nat) (h : AH) : Option (Int32 × AH) :=
  lp (fun _ _ => none) (fun (L4 : Int32 → AH → Option (Int32 × AH)) (x1 : Int32) (h2 : AH) =>
    fI h2 [12] o 3 fun v3 =>
    if v3 ≤ x1 then
      lp (fun _ _ _ => none) (fun (L47 : Int32 → Int32 → AH → Option (Int32 × AH)) (x4 : Int32) (x5 : Int32) (h6 : AH) =>
        fI h6 [12] o 3 fun v7 =>
        if v7 ≤ x5 then
          some (x4, h6)
        else
          fR h6 [12] o 64 fun v8 =>
          aI h6 23 v8 x5 fun v9 =>
          jn (fun (x10 : Int32) (h11 : AH) =>
            L47 x10 (x5 + 1) h11) fun j80 =>
          if v9 = 0 then
            j80 x4 h6
          else
            fR h6 [12] o 7 fun v12 =>
            fI h6 [12] o 1 fun v13 =>
            bI h6 20 v12 x5 v13 fun h14 =>
            j80 (x4 + 1) h14) lpN (0 : Int32) (0 : Int32) h2
    else
      fR h2 [12] o 64 fun v15 =>
      rO h2 [12] o <| cl (f_X12_isOut o x1 h2) fun v17 h16 =>
      jn (fun (x18 : Int32) (h19 : AH) =>
        bI h19 23 v15 x1 (x18 &&& 1) fun h20 =>
        L4 (x1 + 1) h20) fun j38 =>
      jn (fun (h21 : AH) =>
        j38 (0 : Int32) h21) fun j37 =>
      if v17 = 0 then
        j37 h16
      else
        rO h16 [12] o <| cl (f_X12_downOf o x1 h16) fun v23 h22 =>
        if v23 = 0 then
          j37 h22
        else
          j38 (1 : Int32) h22) lpN (0 : Int32) h
set_option maxRecDepth 100000 in
set_option maxHeartbeats 4000000 in
theorem c_X12_putAll (l : Launch) (D : DT) (o : Option Nat) (h : AH) (r : Int32 × AH) (hf : f_X12_putAll o h = some r) : CM l D yX12_putAll cX12_putAll 3 (some .int) 5 118 0 0 [.inr (.inr o)] h (some (.int r.1)) r.2 := by
  refine CM.of (by decide) (Nat.le_of_ble_eq_true rfl) (fun X hl C hD hX hnm E => ?_)
  subst hl
  subst hD
  have C : CX X RX12 cX12_putAll 3 := C
  show WW X h 0 0 0 [some (rB (xD X).1 o), none, none] []
  unfold f_X12_putAll at hf
  refine s_iconst C dX12_putAll_0 (v := (0 : Int32)) (by decide) ?_
  refine s_istore_n C dX12_putAll_1 (by decide) (nc_r rfl) (lv' := [some (rB (xD X).1 o), some (.int (0 : Int32)), none]) rfl ?_
  refine s_iconst C dX12_putAll_2 (v := (0 : Int32)) (by decide) ?_
  refine s_istore_n C dX12_putAll_3 (by decide) (nc_i rfl) (lv' := [some (rB (xD X).1 o), some (.int (0 : Int32)), some (.int (0 : Int32))]) rfl ?_
  refine s_lp2 hf (fun G4 z4 q4 hf => ?_)
  have k4 : ∀ (n : Nat) (x1 : Int32) (h2 : AH), G4 n x1 h2 = some r → WW X h2 0 0 4 [some (rB (xD X).1 o), some (.int (0 : Int32)), some (.int x1)] [] := by
    intro n
    induction n with
    | zero =>
      intro x1 h2 hf
      rw [z4] at hf
      cases hf
    | succ n ih4 =>
      intro x1 h2 hf
      have hf := (q4 n x1 h2).symm.trans hf
      refine s_iload_n C dX12_putAll_4 rfl ?_
      refine s_aload_n C dX12_putAll_5 rfl ?_
      refine s_getI C fl_X12_214 dX12_putAll_6 hf (fun v3 hf => ?_)
      refine s_icmp_ge (tgt := 45) C dX12_putAll_9 (by decide) hf (fun hf => ?_) (fun hf => ?_)
      · refine s_iconst C dX12_putAll_45 (v := (0 : Int32)) (by decide) ?_
        refine s_istore_n C dX12_putAll_46 (by decide) (nc_i rfl) (lv' := [some (rB (xD X).1 o), some (.int (0 : Int32)), some (.int (0 : Int32))]) rfl ?_
        refine s_lp3 hf (fun G47 z47 q47 hf => ?_)
        have k47 : ∀ (n : Nat) (x4 : Int32) (x5 : Int32) (h6 : AH), G47 n x4 x5 h6 = some r → WW X h6 0 0 47 [some (rB (xD X).1 o), some (.int x4), some (.int x5)] [] := by
          intro n
          induction n with
          | zero =>
            intro x4 x5 h6 hf
            rw [z47] at hf
            cases hf
          | succ n ih47 =>
            intro x4 x5 h6 hf
            have hf := (q47 n x4 x5 h6).symm.trans hf
            refine s_iload_n C dX12_putAll_47 rfl ?_
            refine s_aload_n C dX12_putAll_48 rfl ?_
            refine s_getI C fl_X12_214 dX12_putAll_49 hf (fun v7 hf => ?_)
            refine s_icmp_ge (tgt := 86) C dX12_putAll_52 (by decide) hf (fun hf => ?_) (fun hf => ?_)
            · refine s_iload_n C dX12_putAll_86 rfl ?_
              exact s_ireturn C E dX12_putAll_87 hf (Nat.le_of_ble_eq_true rfl) (Nat.le_of_ble_eq_true rfl)
            · refine s_aload_n C dX12_putAll_55 rfl ?_
              refine s_getR C fl_X12_136 dX12_putAll_56 hf (fun v8 hf => ?_)
              refine s_iload_n C dX12_putAll_59 rfl ?_
              refine s_zaload C dX12_putAll_60 hf (fun v9 hf => ?_)
              refine s_jn hf (fun j80 e80 hf => ?_)
              have k80 : ∀ (x10 : Int32) (h11 : AH), j80 x10 h11 = some r → WW X h11 0 0 80 [some (rB (xD X).1 o), some (.int x10), some (.int x5)] [] := by
                intro x10 h11 hf
                rw [e80] at hf
                refine s_iinc C dX12_putAll_80 (v := (x5 + 1)) rfl rfl (by decide) (nc_i rfl) (lv' := [some (rB (xD X).1 o), some (.int x10), some (.int (x5 + 1))]) rfl ?_
                refine s_goto (tgt := 47) C dX12_putAll_83 (by decide) ?_
                exact ih47 _ _ _ hf
              refine s_if_ne (tgt := 67) C dX12_putAll_61 (by decide) hf (fun hf => ?_) (fun hf => ?_)
              · refine s_aload_n C dX12_putAll_67 rfl ?_
                refine s_getR C fl_X12_22 dX12_putAll_68 hf (fun v12 hf => ?_)
                refine s_iload_n C dX12_putAll_71 rfl ?_
                refine s_aload_n C dX12_putAll_72 rfl ?_
                refine s_getI C fl_X12_203 dX12_putAll_73 hf (fun v13 hf => ?_)
                refine s_iastore C dX12_putAll_76 hf (fun h14 hf => ?_)
                refine s_iinc C dX12_putAll_77 (v := (x4 + 1)) rfl rfl (by decide) (nc_r rfl) (lv' := [some (rB (xD X).1 o), some (.int (x4 + 1)), some (.int x5)]) rfl ?_
                exact k80 _ _ hf
              · refine s_goto (tgt := 80) C dX12_putAll_64 (by decide) ?_
                exact k80 _ _ hf
        exact k47 lpN _ _ _ hf
      · refine s_aload_n C dX12_putAll_12 rfl ?_
        refine s_getR C fl_X12_136 dX12_putAll_13 hf (fun v15 hf => ?_)
        refine s_iload_n C dX12_putAll_16 rfl ?_
        refine s_aload_n C dX12_putAll_17 rfl ?_
        refine s_iload_n C dX12_putAll_18 rfl ?_
        refine s_callV (rvf := fun x => some (.int x)) (st := [.int x1, rB (xD X).1 v15]) (fr := 3) (lo := 64) (mc := 0) (ms := 0) C [12] wc_X12_isOut wml_X12_255 wim_X12_isOut wsl_12_X12_isOut dX12_putAll_19 (As := [.inl x1]) rfl hf (fun x h' hF => c_X12_isOut _ _ _ _ _ (x, h') hF) rfl (Nat.le_of_ble_eq_true rfl) (room_ok hX (Nat.le_of_ble_eq_true rfl) (Nat.le_of_ble_eq_true rfl)) (cell_ok hX (Nat.le_of_ble_eq_true rfl) (Nat.le_of_ble_eq_true rfl)) (fun v17 h16 hf => ?_)
        refine s_jn hf (fun j38 e38 hf => ?_)
        have k38 : ∀ (x18 : Int32) (h19 : AH), j38 x18 h19 = some r → WW X h19 0 0 38 [some (rB (xD X).1 o), some (.int (0 : Int32)), some (.int x1)] [.int x18, .int x1, rB (xD X).1 v15] := by
          intro x18 h19 hf
          rw [e38] at hf
          refine s_zastore C dX12_putAll_38 hf (fun h20 hf => ?_)
          refine s_iinc C dX12_putAll_39 (v := (x1 + 1)) rfl rfl (by decide) (nc_i rfl) (lv' := [some (rB (xD X).1 o), some (.int (0 : Int32)), some (.int (x1 + 1))]) rfl ?_
          refine s_goto (tgt := 4) C dX12_putAll_42 (by decide) ?_
          exact ih4 _ _ hf
        refine s_jn hf (fun j37 e37 hf => ?_)
        have k37 : ∀ (h21 : AH), j37 h21 = some r → WW X h21 0 0 37 [some (rB (xD X).1 o), some (.int (0 : Int32)), some (.int x1)] [.int x1, rB (xD X).1 v15] := by
          intro h21 hf
          rw [e37] at hf
          refine s_iconst C dX12_putAll_37 (v := (0 : Int32)) (by decide) ?_
          exact k38 _ _ hf
        refine s_if_eq (tgt := 37) C dX12_putAll_22 (by decide) hf (fun hf => ?_) (fun hf => ?_)
        · exact k37 _ hf
        · refine s_aload_n C dX12_putAll_25 rfl ?_
          refine s_iload_n C dX12_putAll_26 rfl ?_
          refine s_callV (rvf := fun x => some (.int x)) (st := [.int x1, rB (xD X).1 v15]) (fr := 4) (lo := 97) (mc := 0) (ms := 0) C [12] wc_X12_downOf wml_X12_448 wim_X12_downOf wsl_12_X12_downOf dX12_putAll_27 (As := [.inl x1]) rfl hf (fun x h' hF => c_X12_downOf _ _ _ _ _ (x, h') hF) rfl (Nat.le_of_ble_eq_true rfl) (room_ok hX (Nat.le_of_ble_eq_true rfl) (Nat.le_of_ble_eq_true rfl)) (cell_ok hX (Nat.le_of_ble_eq_true rfl) (Nat.le_of_ble_eq_true rfl)) (fun v23 h22 hf => ?_)
          refine s_if_eq (tgt := 37) C dX12_putAll_30 (by decide) hf (fun hf => ?_) (fun hf => ?_)
          · exact k37 _ hf
          · refine s_iconst C dX12_putAll_33 (v := (1 : Int32)) (by decide) ?_
            refine s_goto (tgt := 38) C dX12_putAll_34 (by decide) ?_
            exact k38 _ _ hf
  exact k4 lpN _ _ hf
/-- HillBoxesModel.findRanks(II)V -/
noncomputable def f_X12_findRanks (o : Option Nat) (a1 : Int32) (a2 : Int32) (h : AH) : Option (Unit × AH) :=
  lp (fun _ _ => none) (fun (L2 : Int32 → AH → Option (Unit × AH)) (x1 : Int32) (h2 : AH) =>
    fI h2 [12] o 17 fun v3 =>
    if v3 ≤ x1 then
      lp (fun _ _ => none) (fun (L68 : Int32 → AH → Option (Unit × AH)) (x4 : Int32) (h5 : AH) =>
        fI h5 [12] o 3 fun v6 =>
        if v6 ≤ x4 then
          lp (fun _ _ => none) (fun (L91 : Int32 → AH → Option (Unit × AH)) (x7 : Int32) (h8 : AH) =>
            fI h8 [12] o 17 fun v9 =>
            if v9 ≤ x7 then
              some ((), h8)
            else
              fR h8 [12] o 83 fun v10 =>
              aI h8 23 v10 x7 fun v11 =>
              jn (fun (x12 : Int32) (h13 : AH) =>
                L91 (x12 + 1) h13) fun j207 =>
              if v11 = 0 then
                j207 x7 h8
              else
                lp (fun _ _ _ _ => none) (fun (L117 : Int32 → Int32 → Int32 → AH → Option (Unit × AH)) (x14 : Int32) (x15 : Int32) (x16 : Int32) (h17 : AH) =>
                  jn (
                    fR h17 [12] o 82 fun v18 =>
                    fR h17 [12] o 18 fun v19 =>
                    aI h17 20 v19 x14 fun v20 =>
                    aI h17 20 v18 v20 fun v21 =>
                    jn (fun (x22 : Int32) =>
                      bI h17 20 v18 v20 (v21 + x22) fun h23 =>
                      j207 x14 h23) fun j205 =>
                    if x15 = 0 then
                      j205 (0 : Int32)
                    else
                      j205 (1 : Int32)) fun j183 =>
                  if x14 ≤ x16 then
                    j183
                  else
                    if x15 = 0 then
                      j183
                    else
                      fR h17 [12] o 83 fun v24 =>
                      aI h17 23 v24 x16 fun v25 =>
                      jn (fun (x26 : Int32) =>
                        L117 x14 x26 (x16 + 1) h17) fun j175 =>
                      jn (
                        j175 (1 : Int32)) fun j170 =>
                      if v25 = 0 then
                        j170
                      else
                        fR h17 [12] o 18 fun v27 =>
                        aI h17 20 v27 x16 fun v28 =>
                        fR h17 [12] o 18 fun v29 =>
                        aI h17 20 v29 x14 fun v30 =>
                        if v28 = v30 then
                          fR h17 [12] o 19 fun v31 =>
                          aI h17 20 v31 x16 fun v32 =>
                          fR h17 [12] o 19 fun v33 =>
                          aI h17 20 v33 x14 fun v34 =>
                          if v32 = v34 then
                            j175 (0 : Int32)
                          else
                            j170
                        else
                          j170) lpN x7 (1 : Int32) (0 : Int32) h8) lpN (0 : Int32) h5
        else
          fR h5 [12] o 82 fun v35 =>
          bI h5 20 v35 x4 (0 : Int32) fun h36 =>
          L68 (x4 + 1) h36) lpN (0 : Int32) h2
    else
      fR h2 [12] o 83 fun v37 =>
      fR h2 [12] o 21 fun v38 =>
      aI h2 23 v38 x1 fun v39 =>
      jn (fun (x40 : Int32) (h41 : AH) =>
        bI h41 23 v37 x1 (x40 &&& 1) fun h42 =>
        L2 (x1 + 1) h42) fun j59 =>
      jn (fun (h43 : AH) =>
        j59 (0 : Int32) h43) fun j58 =>
      if v39 = 0 then
        j58 h2
      else
        fR h2 [12] o 20 fun v44 =>
        aI h2 20 v44 x1 fun v45 =>
        nz (24 : Int32) <|
        if a1 < (v45 / (24 : Int32)) then
          j58 h2
        else
          rO h2 [12] o <| cl (f_X12_falseOf o x1 h2) fun v47 h46 =>
          if v47 = 0 then
            rO h46 [12] o <| cl (f_X12_logCounts o x1 a2 h46) fun v49 h48 =>
            if v49 = 0 then
              j58 h48
            else
              j59 (1 : Int32) h48
          else
            j58 h46) lpN (0 : Int32) h
set_option maxRecDepth 100000 in
set_option maxHeartbeats 4000000 in
theorem c_X12_findRanks (l : Launch) (D : DT) (o : Option Nat) (a1 : Int32) (a2 : Int32) (h : AH) (r : Unit × AH) (hf : f_X12_findRanks o a1 a2 h = some r) : CM l D yX12_findRanks cX12_findRanks 6 none 7 152 0 0 [.inr (.inr o), .inl a1, .inl a2] h none r.2 := by
  refine CM.of (by decide) (Nat.le_of_ble_eq_true rfl) (fun X hl C hD hX hnm E => ?_)
  subst hl
  subst hD
  have C : CX X RX12 cX12_findRanks 6 := C
  show WW X h 0 0 0 [some (rB (xD X).1 o), some (.int a1), some (.int a2), none, none, none] []
  unfold f_X12_findRanks at hf
  refine s_iconst C dX12_findRanks_0 (v := (0 : Int32)) (by decide) ?_
  refine s_istore_n C dX12_findRanks_1 (by decide) (nc_i rfl) (lv' := [some (rB (xD X).1 o), some (.int a1), some (.int a2), some (.int (0 : Int32)), none, none]) rfl ?_
  refine s_lp2 hf (fun G2 z2 q2 hf => ?_)
  have k2 : ∀ (n : Nat) (x1 : Int32) (h2 : AH), G2 n x1 h2 = some r → WW X h2 0 0 2 [some (rB (xD X).1 o), some (.int a1), some (.int a2), some (.int x1), none, none] [] := by
    intro n
    induction n with
    | zero =>
      intro x1 h2 hf
      rw [z2] at hf
      cases hf
    | succ n ih2 =>
      intro x1 h2 hf
      have hf := (q2 n x1 h2).symm.trans hf
      refine s_iload_n C dX12_findRanks_2 rfl ?_
      refine s_aload_n C dX12_findRanks_3 rfl ?_
      refine s_getI C fl_X12_252 dX12_findRanks_4 hf (fun v3 hf => ?_)
      refine s_icmp_ge (tgt := 66) C dX12_findRanks_7 (by decide) hf (fun hf => ?_) (fun hf => ?_)
      · refine s_iconst C dX12_findRanks_66 (v := (0 : Int32)) (by decide) ?_
        refine s_istore_n C dX12_findRanks_67 (by decide) (nc_i rfl) (lv' := [some (rB (xD X).1 o), some (.int a1), some (.int a2), some (.int (0 : Int32)), none, none]) rfl ?_
        refine s_lp2 hf (fun G68 z68 q68 hf => ?_)
        have k68 : ∀ (n : Nat) (x4 : Int32) (h5 : AH), G68 n x4 h5 = some r → WW X h5 0 0 68 [some (rB (xD X).1 o), none, none, some (.int x4), none, none] [] := by
          intro n
          induction n with
          | zero =>
            intro x4 h5 hf
            rw [z68] at hf
            cases hf
          | succ n ih68 =>
            intro x4 h5 hf
            have hf := (q68 n x4 h5).symm.trans hf
            refine s_iload_n C dX12_findRanks_68 rfl ?_
            refine s_aload_n C dX12_findRanks_69 rfl ?_
            refine s_getI C fl_X12_214 dX12_findRanks_70 hf (fun v6 hf => ?_)
            refine s_icmp_ge (tgt := 89) C dX12_findRanks_73 (by decide) hf (fun hf => ?_) (fun hf => ?_)
            · refine s_iconst C dX12_findRanks_89 (v := (0 : Int32)) (by decide) ?_
              refine s_istore_n C dX12_findRanks_90 (by decide) (nc_n rfl) (lv' := [some (rB (xD X).1 o), none, none, some (.int (0 : Int32)), none, none]) rfl ?_
              refine s_lp2 hf (fun G91 z91 q91 hf => ?_)
              have k91 : ∀ (n : Nat) (x7 : Int32) (h8 : AH), G91 n x7 h8 = some r → WW X h8 0 0 91 [some (rB (xD X).1 o), none, none, some (.int x7), none, none] [] := by
                intro n
                induction n with
                | zero =>
                  intro x7 h8 hf
                  rw [z91] at hf
                  cases hf
                | succ n ih91 =>
                  intro x7 h8 hf
                  have hf := (q91 n x7 h8).symm.trans hf
                  refine s_iload_n C dX12_findRanks_91 rfl ?_
                  refine s_aload_n C dX12_findRanks_92 rfl ?_
                  refine s_getI C fl_X12_252 dX12_findRanks_93 hf (fun v9 hf => ?_)
                  refine s_icmp_ge (tgt := 213) C dX12_findRanks_96 (by decide) hf (fun hf => ?_) (fun hf => ?_)
                  · exact s_return C E dX12_findRanks_213 hf (Nat.le_of_ble_eq_true rfl) (Nat.le_of_ble_eq_true rfl)
                  · refine s_aload_n C dX12_findRanks_99 rfl ?_
                    refine s_getR C fl_X12_174 dX12_findRanks_100 hf (fun v10 hf => ?_)
                    refine s_iload_n C dX12_findRanks_103 rfl ?_
                    refine s_zaload C dX12_findRanks_104 hf (fun v11 hf => ?_)
                    refine s_jn hf (fun j207 e207 hf => ?_)
                    have k207 : ∀ (x12 : Int32) (h13 : AH), j207 x12 h13 = some r → WW X h13 0 0 207 [some (rB (xD X).1 o), none, none, some (.int x12), none, none] [] := by
                      intro x12 h13 hf
                      rw [e207] at hf
                      refine s_iinc C dX12_findRanks_207 (v := (x12 + 1)) rfl rfl (by decide) (nc_n rfl) (lv' := [some (rB (xD X).1 o), none, none, some (.int (x12 + 1)), none, none]) rfl ?_
                      refine s_goto (tgt := 91) C dX12_findRanks_210 (by decide) ?_
                      exact ih91 _ _ hf
                    refine s_if_ne (tgt := 111) C dX12_findRanks_105 (by decide) hf (fun hf => ?_) (fun hf => ?_)
                    · refine s_iconst C dX12_findRanks_111 (v := (1 : Int32)) (by decide) ?_
                      refine s_istore C dX12_findRanks_112 (by decide) (nc_i rfl) (lv' := [some (rB (xD X).1 o), none, none, some (.int x7), some (.int (1 : Int32)), none]) rfl ?_
                      refine s_iconst C dX12_findRanks_114 (v := (0 : Int32)) (by decide) ?_
                      refine s_istore C dX12_findRanks_115 (by decide) (nc_i rfl) (lv' := [some (rB (xD X).1 o), none, none, some (.int x7), some (.int (1 : Int32)), some (.int (0 : Int32))]) rfl ?_
                      refine s_lp4 hf (fun G117 z117 q117 hf => ?_)
                      have k117 : ∀ (n : Nat) (x14 : Int32) (x15 : Int32) (x16 : Int32) (h17 : AH), G117 n x14 x15 x16 h17 = some r → WW X h17 0 0 117 [some (rB (xD X).1 o), none, none, some (.int x14), some (.int x15), some (.int x16)] [] := by
                        intro n
                        induction n with
                        | zero =>
                          intro x14 x15 x16 h17 hf
                          rw [z117] at hf
                          cases hf
                        | succ n ih117 =>
                          intro x14 x15 x16 h17 hf
                          have hf := (q117 n x14 x15 x16 h17).symm.trans hf
                          refine s_iload C dX12_findRanks_117 rfl ?_
                          refine s_iload_n C dX12_findRanks_119 rfl ?_
                          refine s_jn hf (fun j183 e183 hf => ?_)
                          have k183 : j183  = some r → WW X h17 0 0 183 [some (rB (xD X).1 o), none, none, some (.int x14), some (.int x15), none] [] := by
                            intro  hf
                            rw [e183] at hf
                            refine s_aload_n C dX12_findRanks_183 rfl ?_
                            refine s_getR C fl_X12_171 dX12_findRanks_184 hf (fun v18 hf => ?_)
                            refine s_aload_n C dX12_findRanks_187 rfl ?_
                            refine s_getR C fl_X12_46 dX12_findRanks_188 hf (fun v19 hf => ?_)
                            refine s_iload_n C dX12_findRanks_191 rfl ?_
                            refine s_iaload C dX12_findRanks_192 hf (fun v20 hf => ?_)
                            refine s_dup2 C dX12_findRanks_193 c1_i c1_r ?_
                            refine s_iaload C dX12_findRanks_194 hf (fun v21 hf => ?_)
                            refine s_iload C dX12_findRanks_195 rfl ?_
                            refine s_jn hf (fun j205 e205 hf => ?_)
                            have k205 : ∀ (x22 : Int32), j205 x22 = some r → WW X h17 0 0 205 [some (rB (xD X).1 o), none, none, some (.int x14), none, none] [.int x22, .int v21, .int v20, rB (xD X).1 v18] := by
                              intro x22 hf
                              rw [e205] at hf
                              refine s_iadd C dX12_findRanks_205 ?_
                              refine s_iastore C dX12_findRanks_206 hf (fun h23 hf => ?_)
                              exact k207 _ _ hf
                            refine s_if_eq (tgt := 204) C dX12_findRanks_197 (by decide) hf (fun hf => ?_) (fun hf => ?_)
                            · refine s_iconst C dX12_findRanks_204 (v := (0 : Int32)) (by decide) ?_
                              refine s_weak (lv' := [some (rB (xD X).1 o), none, none, some (.int x14), none, none]) ⟨rfl, ⟨rfl, trivial⟩⟩ ?_
                              exact k205 _ hf
                            · refine s_iconst C dX12_findRanks_200 (v := (1 : Int32)) (by decide) ?_
                              refine s_goto (tgt := 205) C dX12_findRanks_201 (by decide) ?_
                              refine s_weak (lv' := [some (rB (xD X).1 o), none, none, some (.int x14), none, none]) ⟨rfl, ⟨rfl, trivial⟩⟩ ?_
                              exact k205 _ hf
                          refine s_icmp_ge (tgt := 183) C dX12_findRanks_120 (by decide) hf (fun hf => ?_) (fun hf => ?_)
                          · refine s_weak (lv' := [some (rB (xD X).1 o), none, none, some (.int x14), some (.int x15), none]) ⟨rfl, ⟨rfl, ⟨rfl, trivial⟩⟩⟩ ?_
                            exact k183 hf
                          · refine s_iload C dX12_findRanks_123 rfl ?_
                            refine s_if_eq (tgt := 183) C dX12_findRanks_125 (by decide) hf (fun hf => ?_) (fun hf => ?_)
                            · refine s_weak (lv' := [some (rB (xD X).1 o), none, none, some (.int x14), some (.int x15), none]) ⟨rfl, ⟨rfl, ⟨rfl, trivial⟩⟩⟩ ?_
                              exact k183 hf
                            · refine s_aload_n C dX12_findRanks_128 rfl ?_
                              refine s_getR C fl_X12_174 dX12_findRanks_129 hf (fun v24 hf => ?_)
                              refine s_iload C dX12_findRanks_132 rfl ?_
                              refine s_zaload C dX12_findRanks_134 hf (fun v25 hf => ?_)
                              refine s_jn hf (fun j175 e175 hf => ?_)
                              have k175 : ∀ (x26 : Int32), j175 x26 = some r → WW X h17 0 0 175 [some (rB (xD X).1 o), none, none, some (.int x14), none, some (.int x16)] [.int x26] := by
                                intro x26 hf
                                rw [e175] at hf
                                refine s_istore C dX12_findRanks_175 (by decide) (nc_i rfl) (lv' := [some (rB (xD X).1 o), none, none, some (.int x14), some (.int x26), some (.int x16)]) rfl ?_
                                refine s_iinc C dX12_findRanks_177 (v := (x16 + 1)) rfl rfl (by decide) (nc_i rfl) (lv' := [some (rB (xD X).1 o), none, none, some (.int x14), some (.int x26), some (.int (x16 + 1))]) rfl ?_
                                refine s_goto (tgt := 117) C dX12_findRanks_180 (by decide) ?_
                                exact ih117 _ _ _ _ hf
                              refine s_jn hf (fun j170 e170 hf => ?_)
                              have k170 : j170  = some r → WW X h17 0 0 170 [some (rB (xD X).1 o), none, none, some (.int x14), none, some (.int x16)] [] := by
                                intro  hf
                                rw [e170] at hf
                                refine s_iconst C dX12_findRanks_170 (v := (1 : Int32)) (by decide) ?_
                                refine s_goto (tgt := 175) C dX12_findRanks_171 (by decide) ?_
                                exact k175 _ hf
                              refine s_if_eq (tgt := 170) C dX12_findRanks_135 (by decide) hf (fun hf => ?_) (fun hf => ?_)
                              · refine s_weak (lv' := [some (rB (xD X).1 o), none, none, some (.int x14), none, some (.int x16)]) ⟨rfl, ⟨rfl, ⟨rfl, trivial⟩⟩⟩ ?_
                                exact k170 hf
                              · refine s_aload_n C dX12_findRanks_138 rfl ?_
                                refine s_getR C fl_X12_46 dX12_findRanks_139 hf (fun v27 hf => ?_)
                                refine s_iload C dX12_findRanks_142 rfl ?_
                                refine s_iaload C dX12_findRanks_144 hf (fun v28 hf => ?_)
                                refine s_aload_n C dX12_findRanks_145 rfl ?_
                                refine s_getR C fl_X12_46 dX12_findRanks_146 hf (fun v29 hf => ?_)
                                refine s_iload_n C dX12_findRanks_149 rfl ?_
                                refine s_iaload C dX12_findRanks_150 hf (fun v30 hf => ?_)
                                refine s_icmp_ne (tgt := 170) C dX12_findRanks_151 (by decide) hf (fun hf => ?_) (fun hf => ?_)
                                · refine s_weak (lv' := [some (rB (xD X).1 o), none, none, some (.int x14), none, some (.int x16)]) ⟨rfl, ⟨rfl, ⟨rfl, trivial⟩⟩⟩ ?_
                                  exact k170 hf
                                · refine s_aload_n C dX12_findRanks_154 rfl ?_
                                  refine s_getR C fl_X12_49 dX12_findRanks_155 hf (fun v31 hf => ?_)
                                  refine s_iload C dX12_findRanks_158 rfl ?_
                                  refine s_iaload C dX12_findRanks_160 hf (fun v32 hf => ?_)
                                  refine s_aload_n C dX12_findRanks_161 rfl ?_
                                  refine s_getR C fl_X12_49 dX12_findRanks_162 hf (fun v33 hf => ?_)
                                  refine s_iload_n C dX12_findRanks_165 rfl ?_
                                  refine s_iaload C dX12_findRanks_166 hf (fun v34 hf => ?_)
                                  refine s_icmp_eq (tgt := 174) C dX12_findRanks_167 (by decide) hf (fun hf => ?_) (fun hf => ?_)
                                  · refine s_iconst C dX12_findRanks_174 (v := (0 : Int32)) (by decide) ?_
                                    refine s_weak (lv' := [some (rB (xD X).1 o), none, none, some (.int x14), none, some (.int x16)]) ⟨rfl, ⟨rfl, ⟨rfl, trivial⟩⟩⟩ ?_
                                    exact k175 _ hf
                                  · refine s_weak (lv' := [some (rB (xD X).1 o), none, none, some (.int x14), none, some (.int x16)]) ⟨rfl, ⟨rfl, ⟨rfl, trivial⟩⟩⟩ ?_
                                    exact k170 hf
                      exact k117 lpN _ _ _ _ hf
                    · refine s_goto (tgt := 207) C dX12_findRanks_108 (by decide) ?_
                      exact k207 _ _ hf
              exact k91 lpN _ _ hf
            · refine s_aload_n C dX12_findRanks_76 rfl ?_
              refine s_getR C fl_X12_171 dX12_findRanks_77 hf (fun v35 hf => ?_)
              refine s_iload_n C dX12_findRanks_80 rfl ?_
              refine s_iconst C dX12_findRanks_81 (v := (0 : Int32)) (by decide) ?_
              refine s_iastore C dX12_findRanks_82 hf (fun h36 hf => ?_)
              refine s_iinc C dX12_findRanks_83 (v := (x4 + 1)) rfl rfl (by decide) (nc_n rfl) (lv' := [some (rB (xD X).1 o), none, none, some (.int (x4 + 1)), none, none]) rfl ?_
              refine s_goto (tgt := 68) C dX12_findRanks_86 (by decide) ?_
              exact ih68 _ _ hf
        refine s_weak (lv' := [some (rB (xD X).1 o), none, none, some (.int (0 : Int32)), none, none]) ⟨rfl, ⟨rfl, trivial⟩⟩ ?_
        exact k68 lpN _ _ hf
      · refine s_aload_n C dX12_findRanks_10 rfl ?_
        refine s_getR C fl_X12_174 dX12_findRanks_11 hf (fun v37 hf => ?_)
        refine s_iload_n C dX12_findRanks_14 rfl ?_
        refine s_aload_n C dX12_findRanks_15 rfl ?_
        refine s_getR C fl_X12_55 dX12_findRanks_16 hf (fun v38 hf => ?_)
        refine s_iload_n C dX12_findRanks_19 rfl ?_
        refine s_zaload C dX12_findRanks_20 hf (fun v39 hf => ?_)
        refine s_jn hf (fun j59 e59 hf => ?_)
        have k59 : ∀ (x40 : Int32) (h41 : AH), j59 x40 h41 = some r → WW X h41 0 0 59 [some (rB (xD X).1 o), some (.int a1), some (.int a2), some (.int x1), none, none] [.int x40, .int x1, rB (xD X).1 v37] := by
          intro x40 h41 hf
          rw [e59] at hf
          refine s_zastore C dX12_findRanks_59 hf (fun h42 hf => ?_)
          refine s_iinc C dX12_findRanks_60 (v := (x1 + 1)) rfl rfl (by decide) (nc_i rfl) (lv' := [some (rB (xD X).1 o), some (.int a1), some (.int a2), some (.int (x1 + 1)), none, none]) rfl ?_
          refine s_goto (tgt := 2) C dX12_findRanks_63 (by decide) ?_
          exact ih2 _ _ hf
        refine s_jn hf (fun j58 e58 hf => ?_)
        have k58 : ∀ (h43 : AH), j58 h43 = some r → WW X h43 0 0 58 [some (rB (xD X).1 o), some (.int a1), some (.int a2), some (.int x1), none, none] [.int x1, rB (xD X).1 v37] := by
          intro h43 hf
          rw [e58] at hf
          refine s_iconst C dX12_findRanks_58 (v := (0 : Int32)) (by decide) ?_
          exact k59 _ _ hf
        refine s_if_eq (tgt := 58) C dX12_findRanks_21 (by decide) hf (fun hf => ?_) (fun hf => ?_)
        · exact k58 _ hf
        · refine s_aload_n C dX12_findRanks_24 rfl ?_
          refine s_getR C fl_X12_52 dX12_findRanks_25 hf (fun v44 hf => ?_)
          refine s_iload_n C dX12_findRanks_28 rfl ?_
          refine s_iaload C dX12_findRanks_29 hf (fun v45 hf => ?_)
          refine s_bipush C dX12_findRanks_30 (v := (24 : Int32)) (by decide) ?_
          refine s_idiv C dX12_findRanks_32 hf (fun hf => ?_)
          refine s_iload_n C dX12_findRanks_33 rfl ?_
          refine s_icmp_gt (tgt := 58) C dX12_findRanks_34 (by decide) hf (fun hf => ?_) (fun hf => ?_)
          · exact k58 _ hf
          · refine s_aload_n C dX12_findRanks_37 rfl ?_
            refine s_iload_n C dX12_findRanks_38 rfl ?_
            refine s_callV (rvf := fun x => some (.int x)) (st := [.int x1, rB (xD X).1 v37]) (fr := 4) (lo := 90) (mc := 0) (ms := 0) C [12] wc_X12_falseOf wml_X12_321 wim_X12_falseOf wsl_12_X12_falseOf dX12_findRanks_39 (As := [.inl x1]) rfl hf (fun x h' hF => c_X12_falseOf _ _ _ _ _ (x, h') hF) rfl (Nat.le_of_ble_eq_true rfl) (room_ok hX (Nat.le_of_ble_eq_true rfl) (Nat.le_of_ble_eq_true rfl)) (cell_ok hX (Nat.le_of_ble_eq_true rfl) (Nat.le_of_ble_eq_true rfl)) (fun v47 h46 hf => ?_)
            refine s_if_ne (tgt := 58) C dX12_findRanks_42 (by decide) hf (fun hf => ?_) (fun hf => ?_)
            · exact k58 _ hf
            · refine s_aload_n C dX12_findRanks_45 rfl ?_
              refine s_iload_n C dX12_findRanks_46 rfl ?_
              refine s_iload_n C dX12_findRanks_47 rfl ?_
              refine s_callV (rvf := fun x => some (.int x)) (st := [.int x1, rB (xD X).1 v37]) (fr := 6) (lo := 130) (mc := 0) (ms := 0) C [12] wc_X12_logCounts wml_X12_305 wim_X12_logCounts wsl_12_X12_logCounts dX12_findRanks_48 (As := [.inl x1, .inl a2]) rfl hf (fun x h' hF => c_X12_logCounts _ _ _ _ _ _ (x, h') hF) rfl (Nat.le_of_ble_eq_true rfl) (room_ok hX (Nat.le_of_ble_eq_true rfl) (Nat.le_of_ble_eq_true rfl)) (cell_ok hX (Nat.le_of_ble_eq_true rfl) (Nat.le_of_ble_eq_true rfl)) (fun v49 h48 hf => ?_)
              refine s_if_eq (tgt := 58) C dX12_findRanks_51 (by decide) hf (fun hf => ?_) (fun hf => ?_)
              · exact k58 _ hf
              · refine s_iconst C dX12_findRanks_54 (v := (1 : Int32)) (by decide) ?_
                refine s_goto (tgt := 59) C dX12_findRanks_55 (by decide) ?_
                exact k59 _ _ hf
  exact k2 lpN _ _ hf
/-- HillBoxesModel.rank(IIII)I -/
noncomputable def f_X12_rank (o : Option Nat) (a1 : Int32) (a2 : Int32) (a3 : Int32) (a4 : Int32) (h : AH) : Option (Int32 × AH) :=
  rO h [12] o <| cl (f_X12_isFinder o a1 h) fun v2 h1 =>
  jn (fun (h3 : AH) =>
    some ((-1 : Int32), h3)) fun j54 =>
  if v2 = 0 then
    j54 h1
  else
    cl (f_X12_isDay a2 h1) fun v5 h4 =>
    if v5 = 0 then
      j54 h4
    else
      jn (fun (h6 : AH) =>
        cl (f_X12_in a4 (0 : Int32) (1 : Int32) h6) fun v8 h7 =>
        if v8 = 0 then
          j54 h7
        else
          rO h7 [12] o <| cl (f_X12_findRanks o a2 a3 h7) fun _ h9 =>
          if a4 = 0 then
            fR h9 [12] o 82 fun v20 =>
            aI h9 20 v20 a1 fun v21 =>
            some (v21, h9)
          else
            lp (fun _ _ => none) (fun (L80 : Int32 → Int32 → Option (Int32 × AH)) (x10 : Int32) (x11 : Int32) =>
              fI h9 [12] o 3 fun v12 =>
              if v12 ≤ x11 then
                some (x10, h9)
              else
                fR h9 [12] o 4 fun v13 =>
                aI h9 20 v13 x11 fun v14 =>
                jn (fun (x15 : Int32) =>
                  L80 (x10 + x15) (x11 + 1)) fun j124 =>
                jn (
                  j124 (0 : Int32)) fun j123 =>
                if v14 = (7 : Int32) then
                  fR h9 [12] o 82 fun v16 =>
                  aI h9 20 v16 x11 fun v17 =>
                  fR h9 [12] o 82 fun v18 =>
                  aI h9 20 v18 a1 fun v19 =>
                  if v17 ≤ v19 then
                    j123
                  else
                    j124 (1 : Int32)
                else
                  j123) lpN (1 : Int32) (0 : Int32)) fun j44 =>
      if a3 = (-1 : Int32) then
        j44 h4
      else
        fI h4 [12] o 33 fun v22 =>
        cl (f_X12_in a3 (0 : Int32) (v22 - (1 : Int32)) h4) fun v24 h23 =>
        if v24 = 0 then
          j54 h23
        else
          fR h23 [12] o 34 fun v25 =>
          aI h23 20 v25 a3 fun v26 =>
          if v26 = (2 : Int32) then
            j44 h23
          else
            j54 h23
set_option maxRecDepth 100000 in
set_option maxHeartbeats 4000000 in
theorem c_X12_rank (l : Launch) (D : DT) (o : Option Nat) (a1 : Int32) (a2 : Int32) (a3 : Int32) (a4 : Int32) (h : AH) (r : Int32 × AH) (hf : f_X12_rank o a1 a2 a3 a4 h = some r) : CM l D yX12_rank cX12_rank 7 (some .int) 8 177 0 0 [.inr (.inr o), .inl a1, .inl a2, .inl a3, .inl a4] h (some (.int r.1)) r.2 := by
  refine CM.of (by decide) (Nat.le_of_ble_eq_true rfl) (fun X hl C hD hX hnm E => ?_)
  subst hl
  subst hD
  have C : CX X RX12 cX12_rank 7 := C
  show WW X h 0 0 0 [some (rB (xD X).1 o), some (.int a1), some (.int a2), some (.int a3), some (.int a4), none, none] []
  unfold f_X12_rank at hf
  refine s_aload_n C dX12_rank_0 rfl ?_
  refine s_iload_n C dX12_rank_1 rfl ?_
  refine s_callV (rvf := fun x => some (.int x)) (st := []) (fr := 2) (lo := 43) (mc := 0) (ms := 0) C [12] wc_X12_isFinder wml_X12_230 wim_X12_isFinder wsl_12_X12_isFinder dX12_rank_2 (As := [.inl a1]) rfl hf (fun x h' hF => c_X12_isFinder _ _ _ _ _ (x, h') hF) rfl (Nat.le_of_ble_eq_true rfl) (room_ok hX (Nat.le_of_ble_eq_true rfl) (Nat.le_of_ble_eq_true rfl)) (cell_ok hX (Nat.le_of_ble_eq_true rfl) (Nat.le_of_ble_eq_true rfl)) (fun v2 h1 hf => ?_)
  refine s_jn hf (fun j54 e54 hf => ?_)
  have k54 : ∀ (h3 : AH), j54 h3 = some r → WW X h3 0 0 54 [none, none, none, none, none, none, none] [] := by
    intro h3 hf
    rw [e54] at hf
    refine s_iconst C dX12_rank_54 (v := (-1 : Int32)) (by decide) ?_
    exact s_ireturn C E dX12_rank_55 hf (Nat.le_of_ble_eq_true rfl) (Nat.le_of_ble_eq_true rfl)
  refine s_if_eq (tgt := 54) C dX12_rank_5 (by decide) hf (fun hf => ?_) (fun hf => ?_)
  · refine s_weak (lv' := [none, none, none, none, none, none, none]) trivial ?_
    exact k54 _ hf
  · refine s_iload_n C dX12_rank_8 rfl ?_
    refine s_callS (rvf := fun x => some (.int x)) (st := []) (fr := 1) (lo := 22) (mc := 0) (ms := 0) C wc_X12_isDay wml_X12_245 wst_X12_isDay dX12_rank_9 (As := [.inl a2]) rfl hf (fun x h' hF => c_X12_isDay _ _ _ _ (x, h') hF) rfl (Nat.le_of_ble_eq_true rfl) (room_ok hX (Nat.le_of_ble_eq_true rfl) (Nat.le_of_ble_eq_true rfl)) (cell_ok hX (Nat.le_of_ble_eq_true rfl) (Nat.le_of_ble_eq_true rfl)) (fun v5 h4 hf => ?_)
    refine s_if_eq (tgt := 54) C dX12_rank_12 (by decide) hf (fun hf => ?_) (fun hf => ?_)
    · refine s_weak (lv' := [none, none, none, none, none, none, none]) trivial ?_
      exact k54 _ hf
    · refine s_iload_n C dX12_rank_15 rfl ?_
      refine s_iconst C dX12_rank_16 (v := (-1 : Int32)) (by decide) ?_
      refine s_jn hf (fun j44 e44 hf => ?_)
      have k44 : ∀ (h6 : AH), j44 h6 = some r → WW X h6 0 0 44 [some (rB (xD X).1 o), some (.int a1), some (.int a2), some (.int a3), some (.int a4), none, none] [] := by
        intro h6 hf
        rw [e44] at hf
        refine s_iload C dX12_rank_44 rfl ?_
        refine s_iconst C dX12_rank_46 (v := (0 : Int32)) (by decide) ?_
        refine s_iconst C dX12_rank_47 (v := (1 : Int32)) (by decide) ?_
        refine s_callS (rvf := fun x => some (.int x)) (st := []) (fr := 0) (lo := 0) (mc := 0) (ms := 0) C wc_X12_in wml_X12_195 wst_X12_in dX12_rank_48 (As := [.inl a4, .inl (0 : Int32), .inl (1 : Int32)]) rfl hf (fun x h' hF => c_X12_in _ _ _ _ _ _ (x, h') hF) rfl (Nat.le_of_ble_eq_true rfl) (room_ok hX (Nat.le_of_ble_eq_true rfl) (Nat.le_of_ble_eq_true rfl)) (cell_ok hX (Nat.le_of_ble_eq_true rfl) (Nat.le_of_ble_eq_true rfl)) (fun v8 h7 hf => ?_)
        refine s_if_ne (tgt := 56) C dX12_rank_51 (by decide) hf (fun hf => ?_) (fun hf => ?_)
        · refine s_aload_n C dX12_rank_56 rfl ?_
          refine s_iload_n C dX12_rank_57 rfl ?_
          refine s_iload_n C dX12_rank_58 rfl ?_
          refine s_callV (rvf := fun _ => none) (st := []) (fr := 7) (lo := 152) (mc := 0) (ms := 0) C [12] wc_X12_findRanks wml_X12_583 wim_X12_findRanks wsl_12_X12_findRanks dX12_rank_59 (As := [.inl a2, .inl a3]) rfl hf (fun x h' hF => c_X12_findRanks _ _ _ _ _ _ (x, h') hF) rfl (Nat.le_of_ble_eq_true rfl) (room_ok hX (Nat.le_of_ble_eq_true rfl) (Nat.le_of_ble_eq_true rfl)) (cell_ok hX (Nat.le_of_ble_eq_true rfl) (Nat.le_of_ble_eq_true rfl)) (fun _ h9 hf => ?_)
          refine s_iload C dX12_rank_62 rfl ?_
          refine s_if_ne (tgt := 74) C dX12_rank_64 (by decide) hf (fun hf => ?_) (fun hf => ?_)
          · refine s_iconst C dX12_rank_74 (v := (1 : Int32)) (by decide) ?_
            refine s_istore C dX12_rank_75 (by decide) (nc_i rfl) (lv' := [some (rB (xD X).1 o), some (.int a1), some (.int a2), some (.int a3), some (.int a4), some (.int (1 : Int32)), none]) rfl ?_
            refine s_iconst C dX12_rank_77 (v := (0 : Int32)) (by decide) ?_
            refine s_istore C dX12_rank_78 (by decide) (nc_i rfl) (lv' := [some (rB (xD X).1 o), some (.int a1), some (.int a2), some (.int a3), some (.int a4), some (.int (1 : Int32)), some (.int (0 : Int32))]) rfl ?_
            refine s_lp2 hf (fun G80 z80 q80 hf => ?_)
            have k80 : ∀ (n : Nat) (x10 : Int32) (x11 : Int32), G80 n x10 x11 = some r → WW X h9 0 0 80 [some (rB (xD X).1 o), some (.int a1), none, none, none, some (.int x10), some (.int x11)] [] := by
              intro n
              induction n with
              | zero =>
                intro x10 x11 hf
                rw [z80] at hf
                cases hf
              | succ n ih80 =>
                intro x10 x11 hf
                have hf := (q80 n x10 x11).symm.trans hf
                refine s_iload C dX12_rank_80 rfl ?_
                refine s_aload_n C dX12_rank_82 rfl ?_
                refine s_getI C fl_X12_214 dX12_rank_83 hf (fun v12 hf => ?_)
                refine s_icmp_ge (tgt := 133) C dX12_rank_86 (by decide) hf (fun hf => ?_) (fun hf => ?_)
                · refine s_iload C dX12_rank_133 rfl ?_
                  exact s_ireturn C E dX12_rank_135 hf (Nat.le_of_ble_eq_true rfl) (Nat.le_of_ble_eq_true rfl)
                · refine s_iload C dX12_rank_89 rfl ?_
                  refine s_aload_n C dX12_rank_91 rfl ?_
                  refine s_getR C fl_X12_13 dX12_rank_92 hf (fun v13 hf => ?_)
                  refine s_iload C dX12_rank_95 rfl ?_
                  refine s_iaload C dX12_rank_97 hf (fun v14 hf => ?_)
                  refine s_bipush C dX12_rank_98 (v := (7 : Int32)) (by decide) ?_
                  refine s_jn hf (fun j124 e124 hf => ?_)
                  have k124 : ∀ (x15 : Int32), j124 x15 = some r → WW X h9 0 0 124 [some (rB (xD X).1 o), some (.int a1), none, none, none, none, some (.int x11)] [.int x15, .int x10] := by
                    intro x15 hf
                    rw [e124] at hf
                    refine s_iadd C dX12_rank_124 ?_
                    refine s_istore C dX12_rank_125 (by decide) (nc_n rfl) (lv' := [some (rB (xD X).1 o), some (.int a1), none, none, none, some (.int (x10 + x15)), some (.int x11)]) rfl ?_
                    refine s_iinc C dX12_rank_127 (v := (x11 + 1)) rfl rfl (by decide) (nc_i rfl) (lv' := [some (rB (xD X).1 o), some (.int a1), none, none, none, some (.int (x10 + x15)), some (.int (x11 + 1))]) rfl ?_
                    refine s_goto (tgt := 80) C dX12_rank_130 (by decide) ?_
                    exact ih80 _ _ hf
                  refine s_jn hf (fun j123 e123 hf => ?_)
                  have k123 : j123  = some r → WW X h9 0 0 123 [some (rB (xD X).1 o), some (.int a1), none, none, none, none, some (.int x11)] [.int x10] := by
                    intro  hf
                    rw [e123] at hf
                    refine s_iconst C dX12_rank_123 (v := (0 : Int32)) (by decide) ?_
                    exact k124 _ hf
                  refine s_icmp_ne (tgt := 123) C dX12_rank_100 (by decide) hf (fun hf => ?_) (fun hf => ?_)
                  · refine s_weak (lv' := [some (rB (xD X).1 o), some (.int a1), none, none, none, none, some (.int x11)]) ⟨rfl, ⟨rfl, ⟨rfl, trivial⟩⟩⟩ ?_
                    exact k123 hf
                  · refine s_aload_n C dX12_rank_103 rfl ?_
                    refine s_getR C fl_X12_171 dX12_rank_104 hf (fun v16 hf => ?_)
                    refine s_iload C dX12_rank_107 rfl ?_
                    refine s_iaload C dX12_rank_109 hf (fun v17 hf => ?_)
                    refine s_aload_n C dX12_rank_110 rfl ?_
                    refine s_getR C fl_X12_171 dX12_rank_111 hf (fun v18 hf => ?_)
                    refine s_iload_n C dX12_rank_114 rfl ?_
                    refine s_iaload C dX12_rank_115 hf (fun v19 hf => ?_)
                    refine s_icmp_le (tgt := 123) C dX12_rank_116 (by decide) hf (fun hf => ?_) (fun hf => ?_)
                    · refine s_weak (lv' := [some (rB (xD X).1 o), some (.int a1), none, none, none, none, some (.int x11)]) ⟨rfl, ⟨rfl, ⟨rfl, trivial⟩⟩⟩ ?_
                      exact k123 hf
                    · refine s_iconst C dX12_rank_119 (v := (1 : Int32)) (by decide) ?_
                      refine s_goto (tgt := 124) C dX12_rank_120 (by decide) ?_
                      refine s_weak (lv' := [some (rB (xD X).1 o), some (.int a1), none, none, none, none, some (.int x11)]) ⟨rfl, ⟨rfl, ⟨rfl, trivial⟩⟩⟩ ?_
                      exact k124 _ hf
            refine s_weak (lv' := [some (rB (xD X).1 o), some (.int a1), none, none, none, some (.int (1 : Int32)), some (.int (0 : Int32))]) ⟨rfl, ⟨rfl, ⟨rfl, ⟨rfl, trivial⟩⟩⟩⟩ ?_
            exact k80 lpN _ _ hf
          · refine s_aload_n C dX12_rank_67 rfl ?_
            refine s_getR C fl_X12_171 dX12_rank_68 hf (fun v20 hf => ?_)
            refine s_iload_n C dX12_rank_71 rfl ?_
            refine s_iaload C dX12_rank_72 hf (fun v21 hf => ?_)
            exact s_ireturn C E dX12_rank_73 hf (Nat.le_of_ble_eq_true rfl) (Nat.le_of_ble_eq_true rfl)
        · refine s_weak (lv' := [none, none, none, none, none, none, none]) trivial ?_
          exact k54 _ hf
      refine s_icmp_eq (tgt := 44) C dX12_rank_17 (by decide) hf (fun hf => ?_) (fun hf => ?_)
      · exact k44 _ hf
      · refine s_iload_n C dX12_rank_20 rfl ?_
        refine s_iconst C dX12_rank_21 (v := (0 : Int32)) (by decide) ?_
        refine s_aload_n C dX12_rank_22 rfl ?_
        refine s_getI C fl_X12_358 dX12_rank_23 hf (fun v22 hf => ?_)
        refine s_iconst C dX12_rank_26 (v := (1 : Int32)) (by decide) ?_
        refine s_isub C dX12_rank_27 ?_
        refine s_callS (rvf := fun x => some (.int x)) (st := []) (fr := 0) (lo := 0) (mc := 0) (ms := 0) C wc_X12_in wml_X12_195 wst_X12_in dX12_rank_28 (As := [.inl a3, .inl (0 : Int32), .inl (v22 - (1 : Int32))]) rfl hf (fun x h' hF => c_X12_in _ _ _ _ _ _ (x, h') hF) rfl (Nat.le_of_ble_eq_true rfl) (room_ok hX (Nat.le_of_ble_eq_true rfl) (Nat.le_of_ble_eq_true rfl)) (cell_ok hX (Nat.le_of_ble_eq_true rfl) (Nat.le_of_ble_eq_true rfl)) (fun v24 h23 hf => ?_)
        refine s_if_eq (tgt := 54) C dX12_rank_31 (by decide) hf (fun hf => ?_) (fun hf => ?_)
        · refine s_weak (lv' := [none, none, none, none, none, none, none]) trivial ?_
          exact k54 _ hf
        · refine s_aload_n C dX12_rank_34 rfl ?_
          refine s_getR C fl_X12_70 dX12_rank_35 hf (fun v25 hf => ?_)
          refine s_iload_n C dX12_rank_38 rfl ?_
          refine s_iaload C dX12_rank_39 hf (fun v26 hf => ?_)
          refine s_iconst C dX12_rank_40 (v := (2 : Int32)) (by decide) ?_
          refine s_icmp_ne (tgt := 54) C dX12_rank_41 (by decide) hf (fun hf => ?_) (fun hf => ?_)
          · refine s_weak (lv' := [none, none, none, none, none, none, none]) trivial ?_
            exact k54 _ hf
          · exact k44 _ hf
/-- HillBoxesModel.isTelling(IIII)Z -/
noncomputable def f_X12_isTelling (a0 : Int32) (a1 : Int32) (a2 : Int32) (a3 : Int32) (h : AH) : Option (Int32 × AH) :=
  cl (f_X12_in a0 (0 : Int32) (5 : Int32) h) fun v2 h1 =>
  if v2 = 0 then
    rz (0 : Int32) h1
  else
    if a0 ≤ (3 : Int32) then
      cl (f_X12_in a1 (0 : Int32) (5 : Int32) h1) fun v4 h3 =>
      jn (fun (h5 : AH) =>
        rz (0 : Int32) h5) fun j65 =>
      if v4 = 0 then
        j65 h3
      else
        jn (fun (h6 : AH) =>
          jn (fun (x7 : Int32) (h8 : AH) =>
            rz x7 h8) fun j119 =>
          if a0 = 0 then
            cl (f_X12_in a3 (0 : Int32) (18 : Int32) h6) fun v16 h15 =>
            j119 v16 h15
          else
            if a0 = (1 : Int32) then
              cl (f_X12_in a3 (0 : Int32) (81 : Int32) h6) fun v14 h13 =>
              j119 v14 h13
            else
              if a0 = (2 : Int32) then
                cl (f_X12_in a3 (-9 : Int32) (9 : Int32) h6) fun v12 h11 =>
                j119 v12 h11
              else
                cl (f_X12_in a3 (0 : Int32) (9 : Int32) h6) fun v10 h9 =>
                j119 v10 h9) fun j67 =>
        if (3 : Int32) ≤ a0 then
          j67 h3
        else
          cl (f_X12_in a2 (0 : Int32) (5 : Int32) h3) fun v18 h17 =>
          if v18 = 0 then
            j65 h17
          else
            j67 h17
    else
      cl (f_X12_in a1 (0 : Int32) (6 : Int32) h1) fun v20 h19 =>
      jn (fun (x21 : Int32) (h22 : AH) =>
        rz x21 h22) fun j41 =>
      jn (fun (h23 : AH) =>
        j41 (0 : Int32) h23) fun j40 =>
      if v20 = 0 then
        j40 h19
      else
        cl (f_X12_in a3 (0 : Int32) (9 : Int32) h19) fun v25 h24 =>
        if v25 = 0 then
          j40 h24
        else
          j41 (1 : Int32) h24
set_option maxRecDepth 100000 in
set_option maxHeartbeats 4000000 in
theorem c_X12_isTelling (l : Launch) (D : DT) (a0 : Int32) (a1 : Int32) (a2 : Int32) (a3 : Int32) (h : AH) (r : Int32 × AH) (hf : f_X12_isTelling a0 a1 a2 a3 h = some r) : CM l D yX12_isTelling cX12_isTelling 4 (some .boolean) 1 22 0 0 [.inl a0, .inl a1, .inl a2, .inl a3] h (some (.int r.1)) r.2 := by
  refine CM.of (by decide) (Nat.le_of_ble_eq_true rfl) (fun X hl C hD hX hnm E => ?_)
  subst hl
  subst hD
  have C : CX X RX12 cX12_isTelling 4 := C
  show WW X h 0 0 0 [some (.int a0), some (.int a1), some (.int a2), some (.int a3)] []
  unfold f_X12_isTelling at hf
  refine s_iload_n C dX12_isTelling_0 rfl ?_
  refine s_iconst C dX12_isTelling_1 (v := (0 : Int32)) (by decide) ?_
  refine s_iconst C dX12_isTelling_2 (v := (5 : Int32)) (by decide) ?_
  refine s_callS (rvf := fun x => some (.int x)) (st := []) (fr := 0) (lo := 0) (mc := 0) (ms := 0) C wc_X12_in wml_X12_195 wst_X12_in dX12_isTelling_3 (As := [.inl a0, .inl (0 : Int32), .inl (5 : Int32)]) rfl hf (fun x h' hF => c_X12_in _ _ _ _ _ _ (x, h') hF) rfl (Nat.le_of_ble_eq_true rfl) (room_ok hX (Nat.le_of_ble_eq_true rfl) (Nat.le_of_ble_eq_true rfl)) (cell_ok hX (Nat.le_of_ble_eq_true rfl) (Nat.le_of_ble_eq_true rfl)) (fun v2 h1 hf => ?_)
  refine s_if_ne (tgt := 11) C dX12_isTelling_6 (by decide) hf (fun hf => ?_) (fun hf => ?_)
  · refine s_iload_n C dX12_isTelling_11 rfl ?_
    refine s_iconst C dX12_isTelling_12 (v := (3 : Int32)) (by decide) ?_
    refine s_icmp_le (tgt := 42) C dX12_isTelling_13 (by decide) hf (fun hf => ?_) (fun hf => ?_)
    · refine s_iload_n C dX12_isTelling_42 rfl ?_
      refine s_iconst C dX12_isTelling_43 (v := (0 : Int32)) (by decide) ?_
      refine s_iconst C dX12_isTelling_44 (v := (5 : Int32)) (by decide) ?_
      refine s_callS (rvf := fun x => some (.int x)) (st := []) (fr := 0) (lo := 0) (mc := 0) (ms := 0) C wc_X12_in wml_X12_195 wst_X12_in dX12_isTelling_45 (As := [.inl a1, .inl (0 : Int32), .inl (5 : Int32)]) rfl hf (fun x h' hF => c_X12_in _ _ _ _ _ _ (x, h') hF) rfl (Nat.le_of_ble_eq_true rfl) (room_ok hX (Nat.le_of_ble_eq_true rfl) (Nat.le_of_ble_eq_true rfl)) (cell_ok hX (Nat.le_of_ble_eq_true rfl) (Nat.le_of_ble_eq_true rfl)) (fun v4 h3 hf => ?_)
      refine s_jn hf (fun j65 e65 hf => ?_)
      have k65 : ∀ (h5 : AH), j65 h5 = some r → WW X h5 0 0 65 [none, none, none, none] [] := by
        intro h5 hf
        rw [e65] at hf
        refine s_iconst C dX12_isTelling_65 (v := (0 : Int32)) (by decide) ?_
        exact s_zreturn C E dX12_isTelling_66 hf (Nat.le_of_ble_eq_true rfl) (Nat.le_of_ble_eq_true rfl)
      refine s_if_eq (tgt := 65) C dX12_isTelling_48 (by decide) hf (fun hf => ?_) (fun hf => ?_)
      · refine s_weak (lv' := [none, none, none, none]) trivial ?_
        exact k65 _ hf
      · refine s_iload_n C dX12_isTelling_51 rfl ?_
        refine s_iconst C dX12_isTelling_52 (v := (3 : Int32)) (by decide) ?_
        refine s_jn hf (fun j67 e67 hf => ?_)
        have k67 : ∀ (h6 : AH), j67 h6 = some r → WW X h6 0 0 67 [some (.int a0), none, none, some (.int a3)] [] := by
          intro h6 hf
          rw [e67] at hf
          refine s_iload_n C dX12_isTelling_67 rfl ?_
          refine s_jn hf (fun j119 e119 hf => ?_)
          have k119 : ∀ (x7 : Int32) (h8 : AH), j119 x7 h8 = some r → WW X h8 0 0 119 [none, none, none, none] [.int x7] := by
            intro x7 h8 hf
            rw [e119] at hf
            exact s_zreturn C E dX12_isTelling_119 hf (Nat.le_of_ble_eq_true rfl) (Nat.le_of_ble_eq_true rfl)
          refine s_if_ne (tgt := 81) C dX12_isTelling_68 (by decide) hf (fun hf => ?_) (fun hf => ?_)
          · refine s_iload_n C dX12_isTelling_81 rfl ?_
            refine s_iconst C dX12_isTelling_82 (v := (1 : Int32)) (by decide) ?_
            refine s_icmp_ne (tgt := 96) C dX12_isTelling_83 (by decide) hf (fun hf => ?_) (fun hf => ?_)
            · refine s_iload_n C dX12_isTelling_96 rfl ?_
              refine s_iconst C dX12_isTelling_97 (v := (2 : Int32)) (by decide) ?_
              refine s_icmp_ne (tgt := 112) C dX12_isTelling_98 (by decide) hf (fun hf => ?_) (fun hf => ?_)
              · refine s_iload_n C dX12_isTelling_112 rfl ?_
                refine s_iconst C dX12_isTelling_113 (v := (0 : Int32)) (by decide) ?_
                refine s_bipush C dX12_isTelling_114 (v := (9 : Int32)) (by decide) ?_
                refine s_callS (rvf := fun x => some (.int x)) (st := []) (fr := 0) (lo := 0) (mc := 0) (ms := 0) C wc_X12_in wml_X12_195 wst_X12_in dX12_isTelling_116 (As := [.inl a3, .inl (0 : Int32), .inl (9 : Int32)]) rfl hf (fun x h' hF => c_X12_in _ _ _ _ _ _ (x, h') hF) rfl (Nat.le_of_ble_eq_true rfl) (room_ok hX (Nat.le_of_ble_eq_true rfl) (Nat.le_of_ble_eq_true rfl)) (cell_ok hX (Nat.le_of_ble_eq_true rfl) (Nat.le_of_ble_eq_true rfl)) (fun v10 h9 hf => ?_)
                refine s_weak (lv' := [none, none, none, none]) trivial ?_
                exact k119 _ _ hf
              · refine s_iload_n C dX12_isTelling_101 rfl ?_
                refine s_bipush C dX12_isTelling_102 (v := (-9 : Int32)) (by decide) ?_
                refine s_bipush C dX12_isTelling_104 (v := (9 : Int32)) (by decide) ?_
                refine s_callS (rvf := fun x => some (.int x)) (st := []) (fr := 0) (lo := 0) (mc := 0) (ms := 0) C wc_X12_in wml_X12_195 wst_X12_in dX12_isTelling_106 (As := [.inl a3, .inl (-9 : Int32), .inl (9 : Int32)]) rfl hf (fun x h' hF => c_X12_in _ _ _ _ _ _ (x, h') hF) rfl (Nat.le_of_ble_eq_true rfl) (room_ok hX (Nat.le_of_ble_eq_true rfl) (Nat.le_of_ble_eq_true rfl)) (cell_ok hX (Nat.le_of_ble_eq_true rfl) (Nat.le_of_ble_eq_true rfl)) (fun v12 h11 hf => ?_)
                refine s_goto (tgt := 119) C dX12_isTelling_109 (by decide) ?_
                refine s_weak (lv' := [none, none, none, none]) trivial ?_
                exact k119 _ _ hf
            · refine s_iload_n C dX12_isTelling_86 rfl ?_
              refine s_iconst C dX12_isTelling_87 (v := (0 : Int32)) (by decide) ?_
              refine s_bipush C dX12_isTelling_88 (v := (81 : Int32)) (by decide) ?_
              refine s_callS (rvf := fun x => some (.int x)) (st := []) (fr := 0) (lo := 0) (mc := 0) (ms := 0) C wc_X12_in wml_X12_195 wst_X12_in dX12_isTelling_90 (As := [.inl a3, .inl (0 : Int32), .inl (81 : Int32)]) rfl hf (fun x h' hF => c_X12_in _ _ _ _ _ _ (x, h') hF) rfl (Nat.le_of_ble_eq_true rfl) (room_ok hX (Nat.le_of_ble_eq_true rfl) (Nat.le_of_ble_eq_true rfl)) (cell_ok hX (Nat.le_of_ble_eq_true rfl) (Nat.le_of_ble_eq_true rfl)) (fun v14 h13 hf => ?_)
              refine s_goto (tgt := 119) C dX12_isTelling_93 (by decide) ?_
              refine s_weak (lv' := [none, none, none, none]) trivial ?_
              exact k119 _ _ hf
          · refine s_iload_n C dX12_isTelling_71 rfl ?_
            refine s_iconst C dX12_isTelling_72 (v := (0 : Int32)) (by decide) ?_
            refine s_bipush C dX12_isTelling_73 (v := (18 : Int32)) (by decide) ?_
            refine s_callS (rvf := fun x => some (.int x)) (st := []) (fr := 0) (lo := 0) (mc := 0) (ms := 0) C wc_X12_in wml_X12_195 wst_X12_in dX12_isTelling_75 (As := [.inl a3, .inl (0 : Int32), .inl (18 : Int32)]) rfl hf (fun x h' hF => c_X12_in _ _ _ _ _ _ (x, h') hF) rfl (Nat.le_of_ble_eq_true rfl) (room_ok hX (Nat.le_of_ble_eq_true rfl) (Nat.le_of_ble_eq_true rfl)) (cell_ok hX (Nat.le_of_ble_eq_true rfl) (Nat.le_of_ble_eq_true rfl)) (fun v16 h15 hf => ?_)
            refine s_goto (tgt := 119) C dX12_isTelling_78 (by decide) ?_
            refine s_weak (lv' := [none, none, none, none]) trivial ?_
            exact k119 _ _ hf
        refine s_icmp_ge (tgt := 67) C dX12_isTelling_53 (by decide) hf (fun hf => ?_) (fun hf => ?_)
        · refine s_weak (lv' := [some (.int a0), none, none, some (.int a3)]) ⟨rfl, ⟨rfl, trivial⟩⟩ ?_
          exact k67 _ hf
        · refine s_iload_n C dX12_isTelling_56 rfl ?_
          refine s_iconst C dX12_isTelling_57 (v := (0 : Int32)) (by decide) ?_
          refine s_iconst C dX12_isTelling_58 (v := (5 : Int32)) (by decide) ?_
          refine s_callS (rvf := fun x => some (.int x)) (st := []) (fr := 0) (lo := 0) (mc := 0) (ms := 0) C wc_X12_in wml_X12_195 wst_X12_in dX12_isTelling_59 (As := [.inl a2, .inl (0 : Int32), .inl (5 : Int32)]) rfl hf (fun x h' hF => c_X12_in _ _ _ _ _ _ (x, h') hF) rfl (Nat.le_of_ble_eq_true rfl) (room_ok hX (Nat.le_of_ble_eq_true rfl) (Nat.le_of_ble_eq_true rfl)) (cell_ok hX (Nat.le_of_ble_eq_true rfl) (Nat.le_of_ble_eq_true rfl)) (fun v18 h17 hf => ?_)
          refine s_if_ne (tgt := 67) C dX12_isTelling_62 (by decide) hf (fun hf => ?_) (fun hf => ?_)
          · refine s_weak (lv' := [some (.int a0), none, none, some (.int a3)]) ⟨rfl, ⟨rfl, trivial⟩⟩ ?_
            exact k67 _ hf
          · refine s_weak (lv' := [none, none, none, none]) trivial ?_
            exact k65 _ hf
    · refine s_iload_n C dX12_isTelling_16 rfl ?_
      refine s_iconst C dX12_isTelling_17 (v := (0 : Int32)) (by decide) ?_
      refine s_bipush C dX12_isTelling_18 (v := (6 : Int32)) (by decide) ?_
      refine s_callS (rvf := fun x => some (.int x)) (st := []) (fr := 0) (lo := 0) (mc := 0) (ms := 0) C wc_X12_in wml_X12_195 wst_X12_in dX12_isTelling_20 (As := [.inl a1, .inl (0 : Int32), .inl (6 : Int32)]) rfl hf (fun x h' hF => c_X12_in _ _ _ _ _ _ (x, h') hF) rfl (Nat.le_of_ble_eq_true rfl) (room_ok hX (Nat.le_of_ble_eq_true rfl) (Nat.le_of_ble_eq_true rfl)) (cell_ok hX (Nat.le_of_ble_eq_true rfl) (Nat.le_of_ble_eq_true rfl)) (fun v20 h19 hf => ?_)
      refine s_jn hf (fun j41 e41 hf => ?_)
      have k41 : ∀ (x21 : Int32) (h22 : AH), j41 x21 h22 = some r → WW X h22 0 0 41 [none, none, none, none] [.int x21] := by
        intro x21 h22 hf
        rw [e41] at hf
        exact s_zreturn C E dX12_isTelling_41 hf (Nat.le_of_ble_eq_true rfl) (Nat.le_of_ble_eq_true rfl)
      refine s_jn hf (fun j40 e40 hf => ?_)
      have k40 : ∀ (h23 : AH), j40 h23 = some r → WW X h23 0 0 40 [none, none, none, none] [] := by
        intro h23 hf
        rw [e40] at hf
        refine s_iconst C dX12_isTelling_40 (v := (0 : Int32)) (by decide) ?_
        exact k41 _ _ hf
      refine s_if_eq (tgt := 40) C dX12_isTelling_23 (by decide) hf (fun hf => ?_) (fun hf => ?_)
      · refine s_weak (lv' := [none, none, none, none]) trivial ?_
        exact k40 _ hf
      · refine s_iload_n C dX12_isTelling_26 rfl ?_
        refine s_iconst C dX12_isTelling_27 (v := (0 : Int32)) (by decide) ?_
        refine s_bipush C dX12_isTelling_28 (v := (9 : Int32)) (by decide) ?_
        refine s_callS (rvf := fun x => some (.int x)) (st := []) (fr := 0) (lo := 0) (mc := 0) (ms := 0) C wc_X12_in wml_X12_195 wst_X12_in dX12_isTelling_30 (As := [.inl a3, .inl (0 : Int32), .inl (9 : Int32)]) rfl hf (fun x h' hF => c_X12_in _ _ _ _ _ _ (x, h') hF) rfl (Nat.le_of_ble_eq_true rfl) (room_ok hX (Nat.le_of_ble_eq_true rfl) (Nat.le_of_ble_eq_true rfl)) (cell_ok hX (Nat.le_of_ble_eq_true rfl) (Nat.le_of_ble_eq_true rfl)) (fun v25 h24 hf => ?_)
        refine s_if_eq (tgt := 40) C dX12_isTelling_33 (by decide) hf (fun hf => ?_) (fun hf => ?_)
        · refine s_weak (lv' := [none, none, none, none]) trivial ?_
          exact k40 _ hf
        · refine s_iconst C dX12_isTelling_36 (v := (1 : Int32)) (by decide) ?_
          refine s_goto (tgt := 41) C dX12_isTelling_37 (by decide) ?_
          refine s_weak (lv' := [none, none, none, none]) trivial ?_
          exact k41 _ _ hf
  · refine s_iconst C dX12_isTelling_9 (v := (0 : Int32)) (by decide) ?_
    exact s_zreturn C E dX12_isTelling_10 hf (Nat.le_of_ble_eq_true rfl) (Nat.le_of_ble_eq_true rfl)
/-- HillBoxesModel.riddle(IIII)I -/
noncomputable def f_X12_riddle (o : Option Nat) (a1 : Int32) (a2 : Int32) (a3 : Int32) (a4 : Int32) (h : AH) : Option (Int32 × AH) :=
  rO h [12] o <| cl (f_X12_isRiddle o a1 h) fun v2 h1 =>
  jn (fun (h3 : AH) =>
    some ((-1 : Int32), h3)) fun j26 =>
  if v2 = 0 then
    j26 h1
  else
    cl (f_X12_isShelf a2 h1) fun v5 h4 =>
    if v5 = 0 then
      j26 h4
    else
      cl (f_X12_in a4 (1 : Int32) (8 : Int32) h4) fun v7 h6 =>
      if v7 = 0 then
        j26 h6
      else
        fR h6 [12] o 86 fun v8 =>
        aI h6 20 v8 a2 fun v9 =>
        jn (
          fR h6 [12] o 46 fun v10 =>
          bI h6 22 v10 a1 ((0 : Int32).toInt8.toInt32) fun h11 =>
          fR h11 [12] o 86 fun v12 =>
          aI h11 20 v12 a2 fun v13 =>
          if v13 = (-1 : Int32) then
            some ((0 : Int32), h11)
          else
            lp (fun _ _ => none) (fun (L74 : Int32 → AH → Option (Int32 × AH)) (x14 : Int32) (h15 : AH) =>
              jn (fun (h16 : AH) =>
                fR h16 [12] o 46 fun v17 =>
                aI h16 22 v17 a1 fun v18 =>
                some (v18, h16)) fun j285 =>
              if a4 ≤ x14 then
                j285 h15
              else
                if (lg_cmp (a3.toInt64 + (((5 : Int32) * x14).toInt64)) (0 : Int64)) < 0 then
                  j285 h15
                else
                  fR h15 [12] o 87 fun v19 =>
                  aI h15 20 v19 a2 fun v20 =>
                  if (lg_cmp ((a3.toInt64 + (((5 : Int32) * x14).toInt64)) + (4 : Int64)) v20.toInt64) < 0 then
                    fR h15 [12] o 88 fun v21 =>
                    aL h15 24 v21 ((((60 : Int32) * a2) + ((a3.toInt64 + (((5 : Int32) * x14).toInt64)).toInt32)) + (4 : Int32)) fun v22 =>
                    if (lg_cmp v22 (0 : Int64)) = 0 then
                      fR h15 [12] o 88 fun v23 =>
                      aL h15 24 v23 (((60 : Int32) * a2) + ((a3.toInt64 + (((5 : Int32) * x14).toInt64)).toInt32)) fun v24 =>
                      fR h15 [12] o 88 fun v25 =>
                      aL h15 24 v25 ((((60 : Int32) * a2) + ((a3.toInt64 + (((5 : Int32) * x14).toInt64)).toInt32)) + (1 : Int32)) fun v26 =>
                      fR h15 [12] o 88 fun v27 =>
                      aL h15 24 v27 ((((60 : Int32) * a2) + ((a3.toInt64 + (((5 : Int32) * x14).toInt64)).toInt32)) + (2 : Int32)) fun v28 =>
                      fR h15 [12] o 88 fun v29 =>
                      aL h15 24 v29 ((((60 : Int32) * a2) + ((a3.toInt64 + (((5 : Int32) * x14).toInt64)).toInt32)) + (3 : Int32)) fun v30 =>
                      cl (f_X12_isTelling v24.toInt32 v26.toInt32 v28.toInt32 v30.toInt32 h15) fun v32 h31 =>
                      if v32 = 0 then
                        j285 h31
                      else
                        fR h31 [12] o 47 fun v33 =>
                        fR h31 [12] o 88 fun v34 =>
                        aL h31 24 v34 (((60 : Int32) * a2) + ((a3.toInt64 + (((5 : Int32) * x14).toInt64)).toInt32)) fun v35 =>
                        bI h31 22 v33 (((8 : Int32) * a1) + x14) (v35.toInt32.toInt8.toInt32.toInt8.toInt32) fun h36 =>
                        fR h36 [12] o 48 fun v37 =>
                        fR h36 [12] o 88 fun v38 =>
                        aL h36 24 v38 ((((60 : Int32) * a2) + ((a3.toInt64 + (((5 : Int32) * x14).toInt64)).toInt32)) + (1 : Int32)) fun v39 =>
                        bI h36 22 v37 (((8 : Int32) * a1) + x14) (v39.toInt32.toInt8.toInt32.toInt8.toInt32) fun h40 =>
                        fR h40 [12] o 49 fun v41 =>
                        fR h40 [12] o 88 fun v42 =>
                        aL h40 24 v42 ((((60 : Int32) * a2) + ((a3.toInt64 + (((5 : Int32) * x14).toInt64)).toInt32)) + (2 : Int32)) fun v43 =>
                        bI h40 22 v41 (((8 : Int32) * a1) + x14) (v43.toInt32.toInt8.toInt32.toInt8.toInt32) fun h44 =>
                        fR h44 [12] o 50 fun v45 =>
                        fR h44 [12] o 88 fun v46 =>
                        aL h44 24 v46 ((((60 : Int32) * a2) + ((a3.toInt64 + (((5 : Int32) * x14).toInt64)).toInt32)) + (3 : Int32)) fun v47 =>
                        bI h44 22 v45 (((8 : Int32) * a1) + x14) (v47.toInt32.toInt8.toInt32.toInt8.toInt32) fun h48 =>
                        fR h48 [12] o 46 fun v49 =>
                        aI h48 22 v49 a1 fun v50 =>
                        bI h48 22 v49 a1 (((v50 + (1 : Int32)).toInt8.toInt32).toInt8.toInt32) fun h51 =>
                        L74 (x14 + 1) h51
                    else
                      j285 h15
                  else
                    j285 h15) lpN (0 : Int32) h11) fun j52 =>
        if v9 = (-1 : Int32) then
          j52
        else
          fR h6 [12] o 86 fun v52 =>
          aI h6 20 v52 a2 fun v53 =>
          if v53 = (-2 : Int32) then
            j52
          else
            some ((-12 : Int32), h6)
set_option maxRecDepth 100000 in
set_option maxHeartbeats 4000000 in
theorem c_X12_riddle (l : Launch) (D : DT) (o : Option Nat) (a1 : Int32) (a2 : Int32) (a3 : Int32) (a4 : Int32) (h : AH) (r : Int32 × AH) (hf : f_X12_riddle o a1 a2 a3 a4 h = some r) : CM l D yX12_riddle cX12_riddle 10 (some .int) 3 64 0 0 [.inr (.inr o), .inl a1, .inl a2, .inl a3, .inl a4] h (some (.int r.1)) r.2 := by
  refine CM.of (by decide) (Nat.le_of_ble_eq_true rfl) (fun X hl C hD hX hnm E => ?_)
  subst hl
  subst hD
  have C : CX X RX12 cX12_riddle 10 := C
  show WW X h 0 0 0 [some (rB (xD X).1 o), some (.int a1), some (.int a2), some (.int a3), some (.int a4), none, none, none, none, none] []
  unfold f_X12_riddle at hf
  refine s_aload_n C dX12_riddle_0 rfl ?_
  refine s_iload_n C dX12_riddle_1 rfl ?_
  refine s_callV (rvf := fun x => some (.int x)) (st := []) (fr := 2) (lo := 43) (mc := 0) (ms := 0) C [12] wc_X12_isRiddle wml_X12_463 wim_X12_isRiddle wsl_12_X12_isRiddle dX12_riddle_2 (As := [.inl a1]) rfl hf (fun x h' hF => c_X12_isRiddle _ _ _ _ _ (x, h') hF) rfl (Nat.le_of_ble_eq_true rfl) (room_ok hX (Nat.le_of_ble_eq_true rfl) (Nat.le_of_ble_eq_true rfl)) (cell_ok hX (Nat.le_of_ble_eq_true rfl) (Nat.le_of_ble_eq_true rfl)) (fun v2 h1 hf => ?_)
  refine s_jn hf (fun j26 e26 hf => ?_)
  have k26 : ∀ (h3 : AH), j26 h3 = some r → WW X h3 0 0 26 [none, none, none, none, none, none, none, none, none, none] [] := by
    intro h3 hf
    rw [e26] at hf
    refine s_iconst C dX12_riddle_26 (v := (-1 : Int32)) (by decide) ?_
    exact s_ireturn C E dX12_riddle_27 hf (Nat.le_of_ble_eq_true rfl) (Nat.le_of_ble_eq_true rfl)
  refine s_if_eq (tgt := 26) C dX12_riddle_5 (by decide) hf (fun hf => ?_) (fun hf => ?_)
  · refine s_weak (lv' := [none, none, none, none, none, none, none, none, none, none]) trivial ?_
    exact k26 _ hf
  · refine s_iload_n C dX12_riddle_8 rfl ?_
    refine s_callS (rvf := fun x => some (.int x)) (st := []) (fr := 1) (lo := 22) (mc := 0) (ms := 0) C wc_X12_isShelf wml_X12_276 wst_X12_isShelf dX12_riddle_9 (As := [.inl a2]) rfl hf (fun x h' hF => c_X12_isShelf _ _ _ _ (x, h') hF) rfl (Nat.le_of_ble_eq_true rfl) (room_ok hX (Nat.le_of_ble_eq_true rfl) (Nat.le_of_ble_eq_true rfl)) (cell_ok hX (Nat.le_of_ble_eq_true rfl) (Nat.le_of_ble_eq_true rfl)) (fun v5 h4 hf => ?_)
    refine s_if_eq (tgt := 26) C dX12_riddle_12 (by decide) hf (fun hf => ?_) (fun hf => ?_)
    · refine s_weak (lv' := [none, none, none, none, none, none, none, none, none, none]) trivial ?_
      exact k26 _ hf
    · refine s_iload C dX12_riddle_15 rfl ?_
      refine s_iconst C dX12_riddle_17 (v := (1 : Int32)) (by decide) ?_
      refine s_bipush C dX12_riddle_18 (v := (8 : Int32)) (by decide) ?_
      refine s_callS (rvf := fun x => some (.int x)) (st := []) (fr := 0) (lo := 0) (mc := 0) (ms := 0) C wc_X12_in wml_X12_195 wst_X12_in dX12_riddle_20 (As := [.inl a4, .inl (1 : Int32), .inl (8 : Int32)]) rfl hf (fun x h' hF => c_X12_in _ _ _ _ _ _ (x, h') hF) rfl (Nat.le_of_ble_eq_true rfl) (room_ok hX (Nat.le_of_ble_eq_true rfl) (Nat.le_of_ble_eq_true rfl)) (cell_ok hX (Nat.le_of_ble_eq_true rfl) (Nat.le_of_ble_eq_true rfl)) (fun v7 h6 hf => ?_)
      refine s_if_ne (tgt := 28) C dX12_riddle_23 (by decide) hf (fun hf => ?_) (fun hf => ?_)
      · refine s_aload_n C dX12_riddle_28 rfl ?_
        refine s_getR C fl_X12_180 dX12_riddle_29 hf (fun v8 hf => ?_)
        refine s_iload_n C dX12_riddle_32 rfl ?_
        refine s_iaload C dX12_riddle_33 hf (fun v9 hf => ?_)
        refine s_iconst C dX12_riddle_34 (v := (-1 : Int32)) (by decide) ?_
        refine s_jn hf (fun j52 e52 hf => ?_)
        have k52 : j52  = some r → WW X h6 0 0 52 [some (rB (xD X).1 o), some (.int a1), some (.int a2), some (.int a3), some (.int a4), none, none, none, none, none] [] := by
          intro  hf
          rw [e52] at hf
          refine s_aload_n C dX12_riddle_52 rfl ?_
          refine s_getR C fl_X12_103 dX12_riddle_53 hf (fun v10 hf => ?_)
          refine s_iload_n C dX12_riddle_56 rfl ?_
          refine s_iconst C dX12_riddle_57 (v := (0 : Int32)) (by decide) ?_
          refine s_bastore C dX12_riddle_58 hf (fun h11 hf => ?_)
          refine s_aload_n C dX12_riddle_59 rfl ?_
          refine s_getR C fl_X12_180 dX12_riddle_60 hf (fun v12 hf => ?_)
          refine s_iload_n C dX12_riddle_63 rfl ?_
          refine s_iaload C dX12_riddle_64 hf (fun v13 hf => ?_)
          refine s_iconst C dX12_riddle_65 (v := (-1 : Int32)) (by decide) ?_
          refine s_icmp_ne (tgt := 71) C dX12_riddle_66 (by decide) hf (fun hf => ?_) (fun hf => ?_)
          · refine s_iconst C dX12_riddle_71 (v := (0 : Int32)) (by decide) ?_
            refine s_istore C dX12_riddle_72 (by decide) (nc_i rfl) (lv' := [some (rB (xD X).1 o), some (.int a1), some (.int a2), some (.int a3), some (.int a4), some (.int (0 : Int32)), none, none, none, none]) rfl ?_
            refine s_lp2 hf (fun G74 z74 q74 hf => ?_)
            have k74 : ∀ (n : Nat) (x14 : Int32) (h15 : AH), G74 n x14 h15 = some r → WW X h15 0 0 74 [some (rB (xD X).1 o), some (.int a1), some (.int a2), some (.int a3), some (.int a4), some (.int x14), none, none, none, none] [] := by
              intro n
              induction n with
              | zero =>
                intro x14 h15 hf
                rw [z74] at hf
                cases hf
              | succ n ih74 =>
                intro x14 h15 hf
                have hf := (q74 n x14 h15).symm.trans hf
                refine s_iload C dX12_riddle_74 rfl ?_
                refine s_iload C dX12_riddle_76 rfl ?_
                refine s_jn hf (fun j285 e285 hf => ?_)
                have k285 : ∀ (h16 : AH), j285 h16 = some r → WW X h16 0 0 285 [some (rB (xD X).1 o), some (.int a1), none, none, none, none, none, none, none, none] [] := by
                  intro h16 hf
                  rw [e285] at hf
                  refine s_aload_n C dX12_riddle_285 rfl ?_
                  refine s_getR C fl_X12_103 dX12_riddle_286 hf (fun v17 hf => ?_)
                  refine s_iload_n C dX12_riddle_289 rfl ?_
                  refine s_baload C dX12_riddle_290 hf (fun v18 hf => ?_)
                  exact s_ireturn C E dX12_riddle_291 hf (Nat.le_of_ble_eq_true rfl) (Nat.le_of_ble_eq_true rfl)
                refine s_icmp_ge (tgt := 285) C dX12_riddle_78 (by decide) hf (fun hf => ?_) (fun hf => ?_)
                · refine s_weak (lv' := [some (rB (xD X).1 o), some (.int a1), none, none, none, none, none, none, none, none]) ⟨rfl, ⟨rfl, trivial⟩⟩ ?_
                  exact k285 _ hf
                · refine s_iload_n C dX12_riddle_81 rfl ?_
                  refine s_i2l C dX12_riddle_82 ?_
                  refine s_iconst C dX12_riddle_83 (v := (5 : Int32)) (by decide) ?_
                  refine s_iload C dX12_riddle_84 rfl ?_
                  refine s_imul C dX12_riddle_86 ?_
                  refine s_i2l C dX12_riddle_87 ?_
                  refine s_ladd C dX12_riddle_88 ?_
                  refine s_lstore C dX12_riddle_89 (by decide) (nc_i rfl) (lv' := [some (rB (xD X).1 o), some (.int a1), some (.int a2), some (.int a3), some (.int a4), some (.int x14), some (.long (a3.toInt64 + (((5 : Int32) * x14).toInt64))), none, none, none]) rfl ?_
                  refine s_lload C dX12_riddle_91 rfl ?_
                  refine s_lconst C dX12_riddle_93 (v := (0 : Int64)) (by decide) ?_
                  refine s_lcmp C dX12_riddle_94 ?_
                  refine s_if_lt (tgt := 285) C dX12_riddle_95 (by decide) hf (fun hf => ?_) (fun hf => ?_)
                  · refine s_weak (lv' := [some (rB (xD X).1 o), some (.int a1), none, none, none, none, none, none, none, none]) ⟨rfl, ⟨rfl, trivial⟩⟩ ?_
                    exact k285 _ hf
                  · refine s_lload C dX12_riddle_98 rfl ?_
                    refine s_ldc2 C dX12_riddle_100 wk_X12_466 ?_
                    refine s_ladd C dX12_riddle_103 ?_
                    refine s_aload_n C dX12_riddle_104 rfl ?_
                    refine s_getR C fl_X12_183 dX12_riddle_105 hf (fun v19 hf => ?_)
                    refine s_iload_n C dX12_riddle_108 rfl ?_
                    refine s_iaload C dX12_riddle_109 hf (fun v20 hf => ?_)
                    refine s_i2l C dX12_riddle_110 ?_
                    refine s_lcmp C dX12_riddle_111 ?_
                    refine s_if_lt (tgt := 118) C dX12_riddle_112 (by decide) hf (fun hf => ?_) (fun hf => ?_)
                    · refine s_bipush C dX12_riddle_118 (v := (60 : Int32)) (by decide) ?_
                      refine s_iload_n C dX12_riddle_120 rfl ?_
                      refine s_imul C dX12_riddle_121 ?_
                      refine s_lload C dX12_riddle_122 rfl ?_
                      refine s_l2i C dX12_riddle_124 ?_
                      refine s_iadd C dX12_riddle_125 ?_
                      refine s_istore C dX12_riddle_126 (by decide) (nc_n rfl) (lv' := [some (rB (xD X).1 o), some (.int a1), some (.int a2), some (.int a3), some (.int a4), some (.int x14), some (.long (a3.toInt64 + (((5 : Int32) * x14).toInt64))), none, some (.int (((60 : Int32) * a2) + ((a3.toInt64 + (((5 : Int32) * x14).toInt64)).toInt32))), none]) rfl ?_
                      refine s_aload_n C dX12_riddle_128 rfl ?_
                      refine s_getR C fl_X12_186 dX12_riddle_129 hf (fun v21 hf => ?_)
                      refine s_iload C dX12_riddle_132 rfl ?_
                      refine s_iconst C dX12_riddle_134 (v := (4 : Int32)) (by decide) ?_
                      refine s_iadd C dX12_riddle_135 ?_
                      refine s_laload C dX12_riddle_136 hf (fun v22 hf => ?_)
                      refine s_lconst C dX12_riddle_137 (v := (0 : Int64)) (by decide) ?_
                      refine s_lcmp C dX12_riddle_138 ?_
                      refine s_if_ne (tgt := 285) C dX12_riddle_139 (by decide) hf (fun hf => ?_) (fun hf => ?_)
                      · refine s_weak (lv' := [some (rB (xD X).1 o), some (.int a1), none, none, none, none, none, none, none, none]) ⟨rfl, ⟨rfl, trivial⟩⟩ ?_
                        exact k285 _ hf
                      · refine s_aload_n C dX12_riddle_142 rfl ?_
                        refine s_getR C fl_X12_186 dX12_riddle_143 hf (fun v23 hf => ?_)
                        refine s_iload C dX12_riddle_146 rfl ?_
                        refine s_laload C dX12_riddle_148 hf (fun v24 hf => ?_)
                        refine s_l2i C dX12_riddle_149 ?_
                        refine s_aload_n C dX12_riddle_150 rfl ?_
                        refine s_getR C fl_X12_186 dX12_riddle_151 hf (fun v25 hf => ?_)
                        refine s_iload C dX12_riddle_154 rfl ?_
                        refine s_iconst C dX12_riddle_156 (v := (1 : Int32)) (by decide) ?_
                        refine s_iadd C dX12_riddle_157 ?_
                        refine s_laload C dX12_riddle_158 hf (fun v26 hf => ?_)
                        refine s_l2i C dX12_riddle_159 ?_
                        refine s_aload_n C dX12_riddle_160 rfl ?_
                        refine s_getR C fl_X12_186 dX12_riddle_161 hf (fun v27 hf => ?_)
                        refine s_iload C dX12_riddle_164 rfl ?_
                        refine s_iconst C dX12_riddle_166 (v := (2 : Int32)) (by decide) ?_
                        refine s_iadd C dX12_riddle_167 ?_
                        refine s_laload C dX12_riddle_168 hf (fun v28 hf => ?_)
                        refine s_l2i C dX12_riddle_169 ?_
                        refine s_aload_n C dX12_riddle_170 rfl ?_
                        refine s_getR C fl_X12_186 dX12_riddle_171 hf (fun v29 hf => ?_)
                        refine s_iload C dX12_riddle_174 rfl ?_
                        refine s_iconst C dX12_riddle_176 (v := (3 : Int32)) (by decide) ?_
                        refine s_iadd C dX12_riddle_177 ?_
                        refine s_laload C dX12_riddle_178 hf (fun v30 hf => ?_)
                        refine s_l2i C dX12_riddle_179 ?_
                        refine s_callS (rvf := fun x => some (.int x)) (st := []) (fr := 1) (lo := 22) (mc := 0) (ms := 0) C wc_X12_isTelling wml_X12_468 wst_X12_isTelling dX12_riddle_180 (As := [.inl v24.toInt32, .inl v26.toInt32, .inl v28.toInt32, .inl v30.toInt32]) rfl hf (fun x h' hF => c_X12_isTelling _ _ _ _ _ _ _ (x, h') hF) rfl (Nat.le_of_ble_eq_true rfl) (room_ok hX (Nat.le_of_ble_eq_true rfl) (Nat.le_of_ble_eq_true rfl)) (cell_ok hX (Nat.le_of_ble_eq_true rfl) (Nat.le_of_ble_eq_true rfl)) (fun v32 h31 hf => ?_)
                        refine s_if_ne (tgt := 189) C dX12_riddle_183 (by decide) hf (fun hf => ?_) (fun hf => ?_)
                        · refine s_bipush C dX12_riddle_189 (v := (8 : Int32)) (by decide) ?_
                          refine s_iload_n C dX12_riddle_191 rfl ?_
                          refine s_imul C dX12_riddle_192 ?_
                          refine s_iload C dX12_riddle_193 rfl ?_
                          refine s_iadd C dX12_riddle_195 ?_
                          refine s_istore C dX12_riddle_196 (by decide) (nc_i rfl) (lv' := [some (rB (xD X).1 o), some (.int a1), some (.int a2), some (.int a3), some (.int a4), some (.int x14), some (.long (a3.toInt64 + (((5 : Int32) * x14).toInt64))), none, some (.int (((60 : Int32) * a2) + ((a3.toInt64 + (((5 : Int32) * x14).toInt64)).toInt32))), some (.int (((8 : Int32) * a1) + x14))]) rfl ?_
                          refine s_aload_n C dX12_riddle_198 rfl ?_
                          refine s_getR C fl_X12_106 dX12_riddle_199 hf (fun v33 hf => ?_)
                          refine s_iload C dX12_riddle_202 rfl ?_
                          refine s_aload_n C dX12_riddle_204 rfl ?_
                          refine s_getR C fl_X12_186 dX12_riddle_205 hf (fun v34 hf => ?_)
                          refine s_iload C dX12_riddle_208 rfl ?_
                          refine s_laload C dX12_riddle_210 hf (fun v35 hf => ?_)
                          refine s_l2i C dX12_riddle_211 ?_
                          refine s_i2b C dX12_riddle_212 ?_
                          refine s_bastore C dX12_riddle_213 hf (fun h36 hf => ?_)
                          refine s_aload_n C dX12_riddle_214 rfl ?_
                          refine s_getR C fl_X12_109 dX12_riddle_215 hf (fun v37 hf => ?_)
                          refine s_iload C dX12_riddle_218 rfl ?_
                          refine s_aload_n C dX12_riddle_220 rfl ?_
                          refine s_getR C fl_X12_186 dX12_riddle_221 hf (fun v38 hf => ?_)
                          refine s_iload C dX12_riddle_224 rfl ?_
                          refine s_iconst C dX12_riddle_226 (v := (1 : Int32)) (by decide) ?_
                          refine s_iadd C dX12_riddle_227 ?_
                          refine s_laload C dX12_riddle_228 hf (fun v39 hf => ?_)
                          refine s_l2i C dX12_riddle_229 ?_
                          refine s_i2b C dX12_riddle_230 ?_
                          refine s_bastore C dX12_riddle_231 hf (fun h40 hf => ?_)
                          refine s_aload_n C dX12_riddle_232 rfl ?_
                          refine s_getR C fl_X12_112 dX12_riddle_233 hf (fun v41 hf => ?_)
                          refine s_iload C dX12_riddle_236 rfl ?_
                          refine s_aload_n C dX12_riddle_238 rfl ?_
                          refine s_getR C fl_X12_186 dX12_riddle_239 hf (fun v42 hf => ?_)
                          refine s_iload C dX12_riddle_242 rfl ?_
                          refine s_iconst C dX12_riddle_244 (v := (2 : Int32)) (by decide) ?_
                          refine s_iadd C dX12_riddle_245 ?_
                          refine s_laload C dX12_riddle_246 hf (fun v43 hf => ?_)
                          refine s_l2i C dX12_riddle_247 ?_
                          refine s_i2b C dX12_riddle_248 ?_
                          refine s_bastore C dX12_riddle_249 hf (fun h44 hf => ?_)
                          refine s_aload_n C dX12_riddle_250 rfl ?_
                          refine s_getR C fl_X12_115 dX12_riddle_251 hf (fun v45 hf => ?_)
                          refine s_iload C dX12_riddle_254 rfl ?_
                          refine s_aload_n C dX12_riddle_256 rfl ?_
                          refine s_getR C fl_X12_186 dX12_riddle_257 hf (fun v46 hf => ?_)
                          refine s_iload C dX12_riddle_260 rfl ?_
                          refine s_iconst C dX12_riddle_262 (v := (3 : Int32)) (by decide) ?_
                          refine s_iadd C dX12_riddle_263 ?_
                          refine s_laload C dX12_riddle_264 hf (fun v47 hf => ?_)
                          refine s_l2i C dX12_riddle_265 ?_
                          refine s_i2b C dX12_riddle_266 ?_
                          refine s_bastore C dX12_riddle_267 hf (fun h48 hf => ?_)
                          refine s_aload_n C dX12_riddle_268 rfl ?_
                          refine s_getR C fl_X12_103 dX12_riddle_269 hf (fun v49 hf => ?_)
                          refine s_iload_n C dX12_riddle_272 rfl ?_
                          refine s_dup2 C dX12_riddle_273 c1_i c1_r ?_
                          refine s_baload C dX12_riddle_274 hf (fun v50 hf => ?_)
                          refine s_iconst C dX12_riddle_275 (v := (1 : Int32)) (by decide) ?_
                          refine s_iadd C dX12_riddle_276 ?_
                          refine s_i2b C dX12_riddle_277 ?_
                          refine s_bastore C dX12_riddle_278 hf (fun h51 hf => ?_)
                          refine s_iinc C dX12_riddle_279 (v := (x14 + 1)) rfl rfl (by decide) (nc_i rfl) (lv' := [some (rB (xD X).1 o), some (.int a1), some (.int a2), some (.int a3), some (.int a4), some (.int (x14 + 1)), some (.long (a3.toInt64 + (((5 : Int32) * x14).toInt64))), none, some (.int (((60 : Int32) * a2) + ((a3.toInt64 + (((5 : Int32) * x14).toInt64)).toInt32))), some (.int (((8 : Int32) * a1) + x14))]) rfl ?_
                          refine s_goto (tgt := 74) C dX12_riddle_282 (by decide) ?_
                          refine s_weak (lv' := [some (rB (xD X).1 o), some (.int a1), some (.int a2), some (.int a3), some (.int a4), some (.int (x14 + 1)), none, none, none, none]) ⟨rfl, ⟨rfl, ⟨rfl, ⟨rfl, ⟨rfl, ⟨rfl, trivial⟩⟩⟩⟩⟩⟩ ?_
                          exact ih74 _ _ hf
                        · refine s_goto (tgt := 285) C dX12_riddle_186 (by decide) ?_
                          refine s_weak (lv' := [some (rB (xD X).1 o), some (.int a1), none, none, none, none, none, none, none, none]) ⟨rfl, ⟨rfl, trivial⟩⟩ ?_
                          exact k285 _ hf
                    · refine s_goto (tgt := 285) C dX12_riddle_115 (by decide) ?_
                      refine s_weak (lv' := [some (rB (xD X).1 o), some (.int a1), none, none, none, none, none, none, none, none]) ⟨rfl, ⟨rfl, trivial⟩⟩ ?_
                      exact k285 _ hf
            exact k74 lpN _ _ hf
          · refine s_iconst C dX12_riddle_69 (v := (0 : Int32)) (by decide) ?_
            exact s_ireturn C E dX12_riddle_70 hf (Nat.le_of_ble_eq_true rfl) (Nat.le_of_ble_eq_true rfl)
        refine s_icmp_eq (tgt := 52) C dX12_riddle_35 (by decide) hf (fun hf => ?_) (fun hf => ?_)
        · exact k52 hf
        · refine s_aload_n C dX12_riddle_38 rfl ?_
          refine s_getR C fl_X12_180 dX12_riddle_39 hf (fun v52 hf => ?_)
          refine s_iload_n C dX12_riddle_42 rfl ?_
          refine s_iaload C dX12_riddle_43 hf (fun v53 hf => ?_)
          refine s_bipush C dX12_riddle_44 (v := (-2 : Int32)) (by decide) ?_
          refine s_icmp_eq (tgt := 52) C dX12_riddle_46 (by decide) hf (fun hf => ?_) (fun hf => ?_)
          · exact k52 hf
          · refine s_bipush C dX12_riddle_49 (v := (-12 : Int32)) (by decide) ?_
            exact s_ireturn C E dX12_riddle_51 hf (Nat.le_of_ble_eq_true rfl) (Nat.le_of_ble_eq_true rfl)
      · refine s_weak (lv' := [none, none, none, none, none, none, none, none, none, none]) trivial ?_
        exact k26 _ hf
/-- HillBoxesModel.row(III)I -/
noncomputable def f_X12_row (o : Option Nat) (a1 : Int32) (a2 : Int32) (a3 : Int32) (h : AH) : Option (Int32 × AH) :=
  cl (f_X12_isShelf a1 h) fun v2 h1 =>
  jn (fun (h3 : AH) =>
    some ((-1 : Int32), h3)) fun j22 =>
  if v2 = 0 then
    j22 h1
  else
    cl (f_X12_in a2 (0 : Int32) (4 : Int32) h1) fun v5 h4 =>
    if v5 = 0 then
      j22 h4
    else
      if a3 ≤ (60 : Int32) then
        if 0 ≤ a3 then
          fR h4 [12] o 86 fun v6 =>
          bI h4 20 v6 a1 ((-2 : Int32) - a2) fun h7 =>
          fR h7 [12] o 87 fun v8 =>
          bI h7 20 v8 a1 a3 fun h9 =>
          lp (fun _ _ => none) (fun (L54 : Int32 → AH → Option (Int32 × AH)) (x10 : Int32) (h11 : AH) =>
            if (((60 : Int32) * a1) + (60 : Int32)) ≤ x10 then
              some ((1 : Int32), h11)
            else
              fR h11 [12] o 88 fun v12 =>
              bL h11 24 v12 x10 (0 : Int64) fun h13 =>
              L54 (x10 + 1) h13) lpN ((60 : Int32) * a1) h9
        else
          some ((-14 : Int32), h4)
      else
        j22 h4
set_option maxRecDepth 100000 in
set_option maxHeartbeats 4000000 in
theorem c_X12_row (l : Launch) (D : DT) (o : Option Nat) (a1 : Int32) (a2 : Int32) (a3 : Int32) (h : AH) (r : Int32 × AH) (hf : f_X12_row o a1 a2 a3 h = some r) : CM l D yX12_row cX12_row 5 (some .int) 2 42 0 0 [.inr (.inr o), .inl a1, .inl a2, .inl a3] h (some (.int r.1)) r.2 := by
  refine CM.of (by decide) (Nat.le_of_ble_eq_true rfl) (fun X hl C hD hX hnm E => ?_)
  subst hl
  subst hD
  have C : CX X RX12 cX12_row 5 := C
  show WW X h 0 0 0 [some (rB (xD X).1 o), some (.int a1), some (.int a2), some (.int a3), none] []
  unfold f_X12_row at hf
  refine s_iload_n C dX12_row_0 rfl ?_
  refine s_callS (rvf := fun x => some (.int x)) (st := []) (fr := 1) (lo := 22) (mc := 0) (ms := 0) C wc_X12_isShelf wml_X12_276 wst_X12_isShelf dX12_row_1 (As := [.inl a1]) rfl hf (fun x h' hF => c_X12_isShelf _ _ _ _ (x, h') hF) rfl (Nat.le_of_ble_eq_true rfl) (room_ok hX (Nat.le_of_ble_eq_true rfl) (Nat.le_of_ble_eq_true rfl)) (cell_ok hX (Nat.le_of_ble_eq_true rfl) (Nat.le_of_ble_eq_true rfl)) (fun v2 h1 hf => ?_)
  refine s_jn hf (fun j22 e22 hf => ?_)
  have k22 : ∀ (h3 : AH), j22 h3 = some r → WW X h3 0 0 22 [none, none, none, none, none] [] := by
    intro h3 hf
    rw [e22] at hf
    refine s_iconst C dX12_row_22 (v := (-1 : Int32)) (by decide) ?_
    exact s_ireturn C E dX12_row_23 hf (Nat.le_of_ble_eq_true rfl) (Nat.le_of_ble_eq_true rfl)
  refine s_if_eq (tgt := 22) C dX12_row_4 (by decide) hf (fun hf => ?_) (fun hf => ?_)
  · refine s_weak (lv' := [none, none, none, none, none]) trivial ?_
    exact k22 _ hf
  · refine s_iload_n C dX12_row_7 rfl ?_
    refine s_iconst C dX12_row_8 (v := (0 : Int32)) (by decide) ?_
    refine s_iconst C dX12_row_9 (v := (4 : Int32)) (by decide) ?_
    refine s_callS (rvf := fun x => some (.int x)) (st := []) (fr := 0) (lo := 0) (mc := 0) (ms := 0) C wc_X12_in wml_X12_195 wst_X12_in dX12_row_10 (As := [.inl a2, .inl (0 : Int32), .inl (4 : Int32)]) rfl hf (fun x h' hF => c_X12_in _ _ _ _ _ _ (x, h') hF) rfl (Nat.le_of_ble_eq_true rfl) (room_ok hX (Nat.le_of_ble_eq_true rfl) (Nat.le_of_ble_eq_true rfl)) (cell_ok hX (Nat.le_of_ble_eq_true rfl) (Nat.le_of_ble_eq_true rfl)) (fun v5 h4 hf => ?_)
    refine s_if_eq (tgt := 22) C dX12_row_13 (by decide) hf (fun hf => ?_) (fun hf => ?_)
    · refine s_weak (lv' := [none, none, none, none, none]) trivial ?_
      exact k22 _ hf
    · refine s_iload_n C dX12_row_16 rfl ?_
      refine s_bipush C dX12_row_17 (v := (60 : Int32)) (by decide) ?_
      refine s_icmp_le (tgt := 24) C dX12_row_19 (by decide) hf (fun hf => ?_) (fun hf => ?_)
      · refine s_iload_n C dX12_row_24 rfl ?_
        refine s_if_ge (tgt := 31) C dX12_row_25 (by decide) hf (fun hf => ?_) (fun hf => ?_)
        · refine s_aload_n C dX12_row_31 rfl ?_
          refine s_getR C fl_X12_180 dX12_row_32 hf (fun v6 hf => ?_)
          refine s_iload_n C dX12_row_35 rfl ?_
          refine s_bipush C dX12_row_36 (v := (-2 : Int32)) (by decide) ?_
          refine s_iload_n C dX12_row_38 rfl ?_
          refine s_isub C dX12_row_39 ?_
          refine s_iastore C dX12_row_40 hf (fun h7 hf => ?_)
          refine s_aload_n C dX12_row_41 rfl ?_
          refine s_getR C fl_X12_183 dX12_row_42 hf (fun v8 hf => ?_)
          refine s_iload_n C dX12_row_45 rfl ?_
          refine s_iload_n C dX12_row_46 rfl ?_
          refine s_iastore C dX12_row_47 hf (fun h9 hf => ?_)
          refine s_bipush C dX12_row_48 (v := (60 : Int32)) (by decide) ?_
          refine s_iload_n C dX12_row_50 rfl ?_
          refine s_imul C dX12_row_51 ?_
          refine s_istore C dX12_row_52 (by decide) (nc_i rfl) (lv' := [some (rB (xD X).1 o), some (.int a1), some (.int a2), some (.int a3), some (.int ((60 : Int32) * a1))]) rfl ?_
          refine s_lp2 hf (fun G54 z54 q54 hf => ?_)
          have k54 : ∀ (n : Nat) (x10 : Int32) (h11 : AH), G54 n x10 h11 = some r → WW X h11 0 0 54 [some (rB (xD X).1 o), some (.int a1), none, none, some (.int x10)] [] := by
            intro n
            induction n with
            | zero =>
              intro x10 h11 hf
              rw [z54] at hf
              cases hf
            | succ n ih54 =>
              intro x10 h11 hf
              have hf := (q54 n x10 h11).symm.trans hf
              refine s_iload C dX12_row_54 rfl ?_
              refine s_bipush C dX12_row_56 (v := (60 : Int32)) (by decide) ?_
              refine s_iload_n C dX12_row_58 rfl ?_
              refine s_imul C dX12_row_59 ?_
              refine s_bipush C dX12_row_60 (v := (60 : Int32)) (by decide) ?_
              refine s_iadd C dX12_row_62 ?_
              refine s_icmp_ge (tgt := 80) C dX12_row_63 (by decide) hf (fun hf => ?_) (fun hf => ?_)
              · refine s_iconst C dX12_row_80 (v := (1 : Int32)) (by decide) ?_
                exact s_ireturn C E dX12_row_81 hf (Nat.le_of_ble_eq_true rfl) (Nat.le_of_ble_eq_true rfl)
              · refine s_aload_n C dX12_row_66 rfl ?_
                refine s_getR C fl_X12_186 dX12_row_67 hf (fun v12 hf => ?_)
                refine s_iload C dX12_row_70 rfl ?_
                refine s_lconst C dX12_row_72 (v := (0 : Int64)) (by decide) ?_
                refine s_lastore C dX12_row_73 hf (fun h13 hf => ?_)
                refine s_iinc C dX12_row_74 (v := (x10 + 1)) rfl rfl (by decide) (nc_n rfl) (lv' := [some (rB (xD X).1 o), some (.int a1), none, none, some (.int (x10 + 1))]) rfl ?_
                refine s_goto (tgt := 54) C dX12_row_77 (by decide) ?_
                exact ih54 _ _ hf
          refine s_weak (lv' := [some (rB (xD X).1 o), some (.int a1), none, none, some (.int ((60 : Int32) * a1))]) ⟨rfl, ⟨rfl, ⟨rfl, trivial⟩⟩⟩ ?_
          exact k54 lpN _ _ hf
        · refine s_bipush C dX12_row_28 (v := (-14 : Int32)) (by decide) ?_
          exact s_ireturn C E dX12_row_30 hf (Nat.le_of_ble_eq_true rfl) (Nat.le_of_ble_eq_true rfl)
      · refine s_weak (lv' := [none, none, none, none, none]) trivial ?_
        exact k22 _ hf
/-- HillBoxesModel.isWord(J)Z -/
noncomputable def f_X12_isWord (o : Option Nat) (a1 : Int64) (h : AH) : Option (Int32 × AH) :=
  fI h [12] o 28 fun v1 =>
  jn (
    rz (0 : Int32) h) fun j22 =>
  if v1 = (1 : Int32) then
    fI h [12] o 27 fun v2 =>
    fI h [12] o 26 fun v3 =>
    if (v2 - v3) ≤ (12 : Int32) then
      fI h [12] o 26 fun v4 =>
      lp (fun _ _ => none) (fun (L32 : Int64 → Int32 → Option (Int32 × AH)) (x5 : Int64) (x6 : Int32) =>
        fI h [12] o 27 fun v7 =>
        if v7 ≤ x6 then
          jn (fun (x8 : Int32) =>
            rz x8 h) fun j77 =>
          if (lg_cmp x5 a1) = 0 then
            j77 (1 : Int32)
          else
            j77 (0 : Int32)
        else
          fR h [12] o 24 fun v9 =>
          aI h 22 v9 x6 fun v10 =>
          L32 ((((27 : Int64) * x5) + v10.toInt64) - (96 : Int64)) (x6 + 1)) lpN (0 : Int64) v4
    else
      j22
  else
    j22
set_option maxRecDepth 100000 in
set_option maxHeartbeats 4000000 in
theorem c_X12_isWord (l : Launch) (D : DT) (o : Option Nat) (a1 : Int64) (h : AH) (r : Int32 × AH) (hf : f_X12_isWord o a1 h = some r) : CM l D yX12_isWord cX12_isWord 6 (some .boolean) 0 0 0 0 [.inr (.inr o), .inr (.inl a1)] h (some (.int r.1)) r.2 := by
  refine CM.of (by decide) (Nat.le_of_ble_eq_true rfl) (fun X hl C hD hX hnm E => ?_)
  subst hl
  subst hD
  have C : CX X RX12 cX12_isWord 6 := C
  show WW X h 0 0 0 [some (rB (xD X).1 o), some (.long a1), none, none, none, none] []
  unfold f_X12_isWord at hf
  refine s_aload_n C dX12_isWord_0 rfl ?_
  refine s_getI C fl_X12_336 dX12_isWord_1 hf (fun v1 hf => ?_)
  refine s_iconst C dX12_isWord_4 (v := (1 : Int32)) (by decide) ?_
  refine s_jn hf (fun j22 e22 hf => ?_)
  have k22 : j22  = some r → WW X h 0 0 22 [none, none, none, none, none, none] [] := by
    intro  hf
    rw [e22] at hf
    refine s_iconst C dX12_isWord_22 (v := (0 : Int32)) (by decide) ?_
    exact s_zreturn C E dX12_isWord_23 hf (Nat.le_of_ble_eq_true rfl) (Nat.le_of_ble_eq_true rfl)
  refine s_icmp_ne (tgt := 22) C dX12_isWord_5 (by decide) hf (fun hf => ?_) (fun hf => ?_)
  · refine s_weak (lv' := [none, none, none, none, none, none]) trivial ?_
    exact k22 hf
  · refine s_aload_n C dX12_isWord_8 rfl ?_
    refine s_getI C fl_X12_330 dX12_isWord_9 hf (fun v2 hf => ?_)
    refine s_aload_n C dX12_isWord_12 rfl ?_
    refine s_getI C fl_X12_333 dX12_isWord_13 hf (fun v3 hf => ?_)
    refine s_isub C dX12_isWord_16 ?_
    refine s_bipush C dX12_isWord_17 (v := (12 : Int32)) (by decide) ?_
    refine s_icmp_le (tgt := 24) C dX12_isWord_19 (by decide) hf (fun hf => ?_) (fun hf => ?_)
    · refine s_lconst C dX12_isWord_24 (v := (0 : Int64)) (by decide) ?_
      refine s_lstore_n C dX12_isWord_25 (by decide) (nc_n rfl) (lv' := [some (rB (xD X).1 o), some (.long a1), none, some (.long (0 : Int64)), none, none]) rfl ?_
      refine s_aload_n C dX12_isWord_26 rfl ?_
      refine s_getI C fl_X12_333 dX12_isWord_27 hf (fun v4 hf => ?_)
      refine s_istore C dX12_isWord_30 (by decide) (nc_n rfl) (lv' := [some (rB (xD X).1 o), some (.long a1), none, some (.long (0 : Int64)), none, some (.int v4)]) rfl ?_
      refine s_lp2 hf (fun G32 z32 q32 hf => ?_)
      have k32 : ∀ (n : Nat) (x5 : Int64) (x6 : Int32), G32 n x5 x6 = some r → WW X h 0 0 32 [some (rB (xD X).1 o), some (.long a1), none, some (.long x5), none, some (.int x6)] [] := by
        intro n
        induction n with
        | zero =>
          intro x5 x6 hf
          rw [z32] at hf
          cases hf
        | succ n ih32 =>
          intro x5 x6 hf
          have hf := (q32 n x5 x6).symm.trans hf
          refine s_iload C dX12_isWord_32 rfl ?_
          refine s_aload_n C dX12_isWord_34 rfl ?_
          refine s_getI C fl_X12_330 dX12_isWord_35 hf (fun v7 hf => ?_)
          refine s_icmp_ge (tgt := 66) C dX12_isWord_38 (by decide) hf (fun hf => ?_) (fun hf => ?_)
          · refine s_lload_n C dX12_isWord_66 rfl ?_
            refine s_lload_n C dX12_isWord_67 rfl ?_
            refine s_lcmp C dX12_isWord_68 ?_
            refine s_jn hf (fun j77 e77 hf => ?_)
            have k77 : ∀ (x8 : Int32), j77 x8 = some r → WW X h 0 0 77 [none, none, none, none, none, none] [.int x8] := by
              intro x8 hf
              rw [e77] at hf
              exact s_zreturn C E dX12_isWord_77 hf (Nat.le_of_ble_eq_true rfl) (Nat.le_of_ble_eq_true rfl)
            refine s_if_ne (tgt := 76) C dX12_isWord_69 (by decide) hf (fun hf => ?_) (fun hf => ?_)
            · refine s_iconst C dX12_isWord_76 (v := (0 : Int32)) (by decide) ?_
              refine s_weak (lv' := [none, none, none, none, none, none]) trivial ?_
              exact k77 _ hf
            · refine s_iconst C dX12_isWord_72 (v := (1 : Int32)) (by decide) ?_
              refine s_goto (tgt := 77) C dX12_isWord_73 (by decide) ?_
              refine s_weak (lv' := [none, none, none, none, none, none]) trivial ?_
              exact k77 _ hf
          · refine s_ldc2 C dX12_isWord_41 wk_X12_351 ?_
            refine s_lload_n C dX12_isWord_44 rfl ?_
            refine s_lmul C dX12_isWord_45 ?_
            refine s_aload_n C dX12_isWord_46 rfl ?_
            refine s_getR C fl_X12_66 dX12_isWord_47 hf (fun v9 hf => ?_)
            refine s_iload C dX12_isWord_50 rfl ?_
            refine s_baload C dX12_isWord_52 hf (fun v10 hf => ?_)
            refine s_i2l C dX12_isWord_53 ?_
            refine s_ladd C dX12_isWord_54 ?_
            refine s_ldc2 C dX12_isWord_55 wk_X12_353 ?_
            refine s_lsub C dX12_isWord_58 ?_
            refine s_lstore_n C dX12_isWord_59 (by decide) (nc_n rfl) (lv' := [some (rB (xD X).1 o), some (.long a1), none, some (.long ((((27 : Int64) * x5) + v10.toInt64) - (96 : Int64))), none, some (.int x6)]) rfl ?_
            refine s_iinc C dX12_isWord_60 (v := (x6 + 1)) rfl rfl (by decide) (nc_n rfl) (lv' := [some (rB (xD X).1 o), some (.long a1), none, some (.long ((((27 : Int64) * x5) + v10.toInt64) - (96 : Int64))), none, some (.int (x6 + 1))]) rfl ?_
            refine s_goto (tgt := 32) C dX12_isWord_63 (by decide) ?_
            exact ih32 _ _ hf
      exact k32 lpN _ _ hf
    · refine s_weak (lv' := [none, none, none, none, none, none]) trivial ?_
      exact k22 hf
/-- HillBoxesModel.lay(II)V -/
noncomputable def f_X12_lay (o : Option Nat) (a1 : Int32) (a2 : Int32) (h : AH) : Option (Unit × AH) :=
  fR h [12] o 41 fun v1 =>
  fI h [12] o 33 fun v2 =>
  fI h [12] o 32 fun v3 =>
  bI h 22 v1 (((170 : Int32) * v2) + v3) (a1.toInt8.toInt32.toInt8.toInt32) fun h4 =>
  fR h4 [12] o 42 fun v5 =>
  fI h4 [12] o 33 fun v6 =>
  fI h4 [12] o 32 fun v7 =>
  bI h4 20 v5 (((170 : Int32) * v6) + v7) a2 fun h8 =>
  fI h8 [12] o 32 fun v9 =>
  pI h8 [12] o 32 (v9 + (1 : Int32)) fun h10 =>
  some ((), h10)
set_option maxRecDepth 100000 in
set_option maxHeartbeats 4000000 in
theorem c_X12_lay (l : Launch) (D : DT) (o : Option Nat) (a1 : Int32) (a2 : Int32) (h : AH) (r : Unit × AH) (hf : f_X12_lay o a1 a2 h = some r) : CM l D yX12_lay cX12_lay 3 none 0 0 0 0 [.inr (.inr o), .inl a1, .inl a2] h none r.2 := by
  refine CM.of (by decide) (Nat.le_of_ble_eq_true rfl) (fun X hl C hD hX hnm E => ?_)
  subst hl
  subst hD
  have C : CX X RX12 cX12_lay 3 := C
  show WW X h 0 0 0 [some (rB (xD X).1 o), some (.int a1), some (.int a2)] []
  unfold f_X12_lay at hf
  refine s_aload_n C dX12_lay_0 rfl ?_
  refine s_getR C fl_X12_91 dX12_lay_1 hf (fun v1 hf => ?_)
  refine s_sipush C dX12_lay_4 (v := (170 : Int32)) (by decide) ?_
  refine s_aload_n C dX12_lay_7 rfl ?_
  refine s_getI C fl_X12_358 dX12_lay_8 hf (fun v2 hf => ?_)
  refine s_imul C dX12_lay_11 ?_
  refine s_aload_n C dX12_lay_12 rfl ?_
  refine s_getI C fl_X12_361 dX12_lay_13 hf (fun v3 hf => ?_)
  refine s_iadd C dX12_lay_16 ?_
  refine s_iload_n C dX12_lay_17 rfl ?_
  refine s_i2b C dX12_lay_18 ?_
  refine s_bastore C dX12_lay_19 hf (fun h4 hf => ?_)
  refine s_aload_n C dX12_lay_20 rfl ?_
  refine s_getR C fl_X12_94 dX12_lay_21 hf (fun v5 hf => ?_)
  refine s_sipush C dX12_lay_24 (v := (170 : Int32)) (by decide) ?_
  refine s_aload_n C dX12_lay_27 rfl ?_
  refine s_getI C fl_X12_358 dX12_lay_28 hf (fun v6 hf => ?_)
  refine s_imul C dX12_lay_31 ?_
  refine s_aload_n C dX12_lay_32 rfl ?_
  refine s_getI C fl_X12_361 dX12_lay_33 hf (fun v7 hf => ?_)
  refine s_iadd C dX12_lay_36 ?_
  refine s_iload_n C dX12_lay_37 rfl ?_
  refine s_iastore C dX12_lay_38 hf (fun h8 hf => ?_)
  refine s_aload_n C dX12_lay_39 rfl ?_
  refine s_dup C dX12_lay_40 c1_r ?_
  refine s_getI C fl_X12_361 dX12_lay_41 hf (fun v9 hf => ?_)
  refine s_iconst C dX12_lay_44 (v := (1 : Int32)) (by decide) ?_
  refine s_iadd C dX12_lay_45 ?_
  refine s_putI C fl_X12_361 (by decide) dX12_lay_46 hf (fun h10 hf => ?_)
  exact s_return C E dX12_lay_49 hf (Nat.le_of_ble_eq_true rfl) (Nat.le_of_ble_eq_true rfl)
