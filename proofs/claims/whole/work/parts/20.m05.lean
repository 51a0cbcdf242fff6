/-- HillBoxes$Shelf.hold(LHillBoxes$Body;)V -/
noncomputable def f_X7_hold (o : Option Nat) (a1 : Option Nat) (h : AH) : Option (Unit × AH) :=
  pR h [7] o 0 a1 fun h1 =>
  pZ h1 [7] o 1 (0 : Int32) fun h2 =>
  some ((), h2)
set_option maxRecDepth 100000 in
set_option maxHeartbeats 4000000 in
theorem c_X7_hold (l : Launch) (D : DT) (o : Option Nat) (a1 : Option Nat) (h : AH) (r : Unit × AH) (hf : f_X7_hold o a1 h = some r) : CM l D yX7_hold cX7_hold 2 none 0 0 0 0 [.inr (.inr o), .inr (.inr a1)] h none r.2 := by
  refine CM.of (by decide) (Nat.le_of_ble_eq_true rfl) (fun X hl C hD hX hnm E => ?_)
  subst hl
  subst hD
  have C : CX X RX7 cX7_hold 2 := C
  show WW X h 0 0 0 [some (rB (xD X).1 o), some (rB (xD X).1 a1)] []
  unfold f_X7_hold at hf
  refine s_aload_n C dX7_hold_0 rfl ?_
  refine s_aload_n C dX7_hold_1 rfl ?_
  refine s_putR C fl_X7_15 dX7_hold_2 hf (fun h1 hf => ?_)
  refine s_aload_n C dX7_hold_5 rfl ?_
  refine s_iconst C dX7_hold_6 (v := (0 : Int32)) (by decide) ?_
  refine s_putZ C fl_X7_19 (by decide) dX7_hold_7 hf (fun h2 hf => ?_)
  exact s_return C E dX7_hold_10 hf (Nat.le_of_ble_eq_true rfl) (Nat.le_of_ble_eq_true rfl)
/-- HillBoxes.keep(II)I -/
noncomputable def f_X11_keep (o : Option Nat) (a1 : Int32) (a2 : Int32) (h : AH) : Option (Int32 × AH) :=
  rO h [11] o <| cl (f_X11_shelfAt o a1 h) fun v2 h1 =>
  fR h1 [11] o 0 fun v3 =>
  rO h1 [3] v3 <| cl (f_X3_bodyAt v3 a2 h1) fun v5 h4 =>
  jn (
    some ((-1 : Int32), h4)) fun j30 =>
  if v2 = none then
    j30
  else
    jn (
      rO h4 [7] v2 <| cl (f_X7_hold v2 v5 h4) fun _ h6 =>
      some ((1 : Int32), h6)) fun j32 =>
    if v5 = none then
      if a2 = (-1 : Int32) then
        j32
      else
        j30
    else
      j32
set_option maxRecDepth 100000 in
set_option maxHeartbeats 4000000 in
theorem c_X11_keep (l : Launch) (D : DT) (o : Option Nat) (a1 : Int32) (a2 : Int32) (h : AH) (r : Int32 × AH) (hf : f_X11_keep o a1 a2 h = some r) : CM l D yX11_keep cX11_keep 5 (some .int) 1 21 0 0 [.inr (.inr o), .inl a1, .inl a2] h (some (.int r.1)) r.2 := by
  refine CM.of (by decide) (Nat.le_of_ble_eq_true rfl) (fun X hl C hD hX hnm E => ?_)
  subst hl
  subst hD
  have C : CX X RX11 cX11_keep 5 := C
  show WW X h 0 0 0 [some (rB (xD X).1 o), some (.int a1), some (.int a2), none, none] []
  unfold f_X11_keep at hf
  refine s_aload_n C dX11_keep_0 rfl ?_
  refine s_iload_n C dX11_keep_1 rfl ?_
  refine s_callV (rvf := fun x => some (rB (xD X).1 x)) (st := []) (fr := 0) (lo := 0) (mc := 0) (ms := 0) C [11] wc_X11_shelfAt wml_X11_238 wim_X11_shelfAt wsl_11_X11_shelfAt dX11_keep_2 (As := [.inl a1]) rfl hf (fun x h' hF => c_X11_shelfAt _ _ _ _ _ (x, h') hF) rfl (Nat.le_of_ble_eq_true rfl) (room_ok hX (Nat.le_of_ble_eq_true rfl) (Nat.le_of_ble_eq_true rfl)) (cell_ok hX (Nat.le_of_ble_eq_true rfl) (Nat.le_of_ble_eq_true rfl)) (fun v2 h1 hf => ?_)
  refine s_astore_n C dX11_keep_5 (by decide) (nc_i rfl) (lv' := [some (rB (xD X).1 o), some (.int a1), some (.int a2), some (rB (xD X).1 v2), none]) rfl ?_
  refine s_aload_n C dX11_keep_6 rfl ?_
  refine s_getR C fl_X11_10 dX11_keep_7 hf (fun v3 hf => ?_)
  refine s_iload_n C dX11_keep_10 rfl ?_
  refine s_callV (rvf := fun x => some (rB (xD X).1 x)) (st := []) (fr := 0) (lo := 0) (mc := 0) (ms := 0) C [3] wc_X3_bodyAt wml_X11_156 wim_X3_bodyAt wsl_3_X3_bodyAt dX11_keep_11 (As := [.inl a2]) rfl hf (fun x h' hF => c_X3_bodyAt _ _ _ _ _ (x, h') hF) rfl (Nat.le_of_ble_eq_true rfl) (room_ok hX (Nat.le_of_ble_eq_true rfl) (Nat.le_of_ble_eq_true rfl)) (cell_ok hX (Nat.le_of_ble_eq_true rfl) (Nat.le_of_ble_eq_true rfl)) (fun v5 h4 hf => ?_)
  refine s_astore C dX11_keep_14 (by decide) (nc_r rfl) (lv' := [some (rB (xD X).1 o), some (.int a1), some (.int a2), some (rB (xD X).1 v2), some (rB (xD X).1 v5)]) rfl ?_
  refine s_aload_n C dX11_keep_16 rfl ?_
  refine s_jn hf (fun j30 e30 hf => ?_)
  have k30 : j30  = some r → WW X h4 0 0 30 [none, none, none, none, none] [] := by
    intro  hf
    rw [e30] at hf
    refine s_iconst C dX11_keep_30 (v := (-1 : Int32)) (by decide) ?_
    exact s_ireturn C E dX11_keep_31 hf (Nat.le_of_ble_eq_true rfl) (Nat.le_of_ble_eq_true rfl)
  refine s_ifnull (tgt := 30) C dX11_keep_17 (by decide) hf (fun hf => ?_) (fun hf => ?_)
  · refine s_weak (lv' := [none, none, none, none, none]) trivial ?_
    exact k30 hf
  · refine s_aload C dX11_keep_20 rfl ?_
    refine s_jn hf (fun j32 e32 hf => ?_)
    have k32 : j32  = some r → WW X h4 0 0 32 [none, none, none, some (rB (xD X).1 v2), some (rB (xD X).1 v5)] [] := by
      intro  hf
      rw [e32] at hf
      refine s_aload_n C dX11_keep_32 rfl ?_
      refine s_aload C dX11_keep_33 rfl ?_
      refine s_callV (rvf := fun _ => none) (st := []) (fr := 0) (lo := 0) (mc := 0) (ms := 0) C [7] wc_X7_hold wml_X11_438 wim_X7_hold wsl_7_X7_hold dX11_keep_35 (As := [.inr (.inr v5)]) rfl hf (fun x h' hF => c_X7_hold _ _ _ _ _ (x, h') hF) rfl (Nat.le_of_ble_eq_true rfl) (room_ok hX (Nat.le_of_ble_eq_true rfl) (Nat.le_of_ble_eq_true rfl)) (cell_ok hX (Nat.le_of_ble_eq_true rfl) (Nat.le_of_ble_eq_true rfl)) (fun _ h6 hf => ?_)
      refine s_iconst C dX11_keep_38 (v := (1 : Int32)) (by decide) ?_
      exact s_ireturn C E dX11_keep_39 hf (Nat.le_of_ble_eq_true rfl) (Nat.le_of_ble_eq_true rfl)
    refine s_ifnonnull (tgt := 32) C dX11_keep_22 (by decide) hf (fun hf => ?_) (fun hf => ?_)
    · refine s_weak (lv' := [none, none, none, some (rB (xD X).1 v2), some (rB (xD X).1 v5)]) ⟨rfl, ⟨rfl, trivial⟩⟩ ?_
      exact k32 hf
    · refine s_iload_n C dX11_keep_25 rfl ?_
      refine s_iconst C dX11_keep_26 (v := (-1 : Int32)) (by decide) ?_
      refine s_icmp_eq (tgt := 32) C dX11_keep_27 (by decide) hf (fun hf => ?_) (fun hf => ?_)
      · refine s_weak (lv' := [none, none, none, some (rB (xD X).1 v2), some (rB (xD X).1 v5)]) ⟨rfl, ⟨rfl, trivial⟩⟩ ?_
        exact k32 hf
      · refine s_weak (lv' := [none, none, none, none, none]) trivial ?_
        exact k30 hf
/-- HillBoxes.leaves(I)I -/
noncomputable def f_X11_leaves (o : Option Nat) (a1 : Int32) (h : AH) : Option (Int32 × AH) :=
  fR h [11] o 0 fun v1 =>
  rO h [3] v1 <| cl (f_X3_finderAt v1 a1 h) fun v3 h2 =>
  if v3 = none then
    some ((-1 : Int32), h2)
  else
    rO h2 [2] v3 <| cl (f_X2_hasLeft v3 h2) fun v5 h4 =>
    if v5 = 0 then
      fR h4 [11] o 0 fun v6 =>
      fI h4 [3] v6 0 fun v7 =>
      pI h4 [2] v3 4 v7 fun h8 =>
      some ((1 : Int32), h8)
    else
      some ((-2 : Int32), h4)
set_option maxRecDepth 100000 in
set_option maxHeartbeats 4000000 in
theorem c_X11_leaves (l : Launch) (D : DT) (o : Option Nat) (a1 : Int32) (h : AH) (r : Int32 × AH) (hf : f_X11_leaves o a1 h = some r) : CM l D yX11_leaves cX11_leaves 3 (some .int) 1 22 0 0 [.inr (.inr o), .inl a1] h (some (.int r.1)) r.2 := by
  refine CM.of (by decide) (Nat.le_of_ble_eq_true rfl) (fun X hl C hD hX hnm E => ?_)
  subst hl
  subst hD
  have C : CX X RX11 cX11_leaves 3 := C
  show WW X h 0 0 0 [some (rB (xD X).1 o), some (.int a1), none] []
  unfold f_X11_leaves at hf
  refine s_aload_n C dX11_leaves_0 rfl ?_
  refine s_getR C fl_X11_10 dX11_leaves_1 hf (fun v1 hf => ?_)
  refine s_iload_n C dX11_leaves_4 rfl ?_
  refine s_callV (rvf := fun x => some (rB (xD X).1 x)) (st := []) (fr := 0) (lo := 0) (mc := 0) (ms := 0) C [3] wc_X3_finderAt wml_X11_90 wim_X3_finderAt wsl_3_X3_finderAt dX11_leaves_5 (As := [.inl a1]) rfl hf (fun x h' hF => c_X3_finderAt _ _ _ _ _ (x, h') hF) rfl (Nat.le_of_ble_eq_true rfl) (room_ok hX (Nat.le_of_ble_eq_true rfl) (Nat.le_of_ble_eq_true rfl)) (cell_ok hX (Nat.le_of_ble_eq_true rfl) (Nat.le_of_ble_eq_true rfl)) (fun v3 h2 hf => ?_)
  refine s_astore_n C dX11_leaves_8 (by decide) (nc_i rfl) (lv' := [some (rB (xD X).1 o), some (.int a1), some (rB (xD X).1 v3)]) rfl ?_
  refine s_aload_n C dX11_leaves_9 rfl ?_
  refine s_ifnonnull (tgt := 15) C dX11_leaves_10 (by decide) hf (fun hf => ?_) (fun hf => ?_)
  · refine s_aload_n C dX11_leaves_15 rfl ?_
    refine s_callV (rvf := fun x => some (.int x)) (st := []) (fr := 0) (lo := 0) (mc := 0) (ms := 0) C [2] wc_X2_hasLeft wml_X11_94 wim_X2_hasLeft wsl_2_X2_hasLeft dX11_leaves_16 (As := []) rfl hf (fun x h' hF => c_X2_hasLeft _ _ _ _ (x, h') hF) rfl (Nat.le_of_ble_eq_true rfl) (room_ok hX (Nat.le_of_ble_eq_true rfl) (Nat.le_of_ble_eq_true rfl)) (cell_ok hX (Nat.le_of_ble_eq_true rfl) (Nat.le_of_ble_eq_true rfl)) (fun v5 h4 hf => ?_)
    refine s_if_eq (tgt := 25) C dX11_leaves_19 (by decide) hf (fun hf => ?_) (fun hf => ?_)
    · refine s_aload_n C dX11_leaves_25 rfl ?_
      refine s_aload_n C dX11_leaves_26 rfl ?_
      refine s_getR C fl_X11_10 dX11_leaves_27 hf (fun v6 hf => ?_)
      refine s_getI C fl_X11_52 dX11_leaves_30 hf (fun v7 hf => ?_)
      refine s_putI C fl_X11_97 (by decide) dX11_leaves_33 hf (fun h8 hf => ?_)
      refine s_iconst C dX11_leaves_36 (v := (1 : Int32)) (by decide) ?_
      exact s_ireturn C E dX11_leaves_37 hf (Nat.le_of_ble_eq_true rfl) (Nat.le_of_ble_eq_true rfl)
    · refine s_bipush C dX11_leaves_22 (v := (-2 : Int32)) (by decide) ?_
      exact s_ireturn C E dX11_leaves_24 hf (Nat.le_of_ble_eq_true rfl) (Nat.le_of_ble_eq_true rfl)
  · refine s_iconst C dX11_leaves_13 (v := (-1 : Int32)) (by decide) ?_
    exact s_ireturn C E dX11_leaves_14 hf (Nat.le_of_ble_eq_true rfl) (Nat.le_of_ble_eq_true rfl)
/-- HillBoxes.liesAt(III)I -/
noncomputable def f_X11_liesAt (o : Option Nat) (a1 : Int32) (a2 : Int32) (a3 : Int32) (h : AH) : Option (Int32 × AH) :=
  fR h [11] o 0 fun v1 =>
  rO h [3] v1 <| cl (f_X3_boxAt v1 a1 h) fun v3 h2 =>
  jn (fun (h4 : AH) =>
    some ((-1 : Int32), h4)) fun j32 =>
  if v3 = none then
    j32 h2
  else
    cl (f_X11_isDay a2 h2) fun v6 h5 =>
    if v6 = 0 then
      j32 h5
    else
      if a3 < 0 then
        j32 h5
      else
        if a3 < (24 : Int32) then
          fR h5 [11] o 0 fun v7 =>
          rO h5 [3] v7 <| cl (f_X3_whereLay v7 v3 (((24 : Int32) * a2) + a3) h5) fun v9 h8 =>
          jn (fun (x10 : Int32) =>
            some (x10, h8)) fun j63 =>
          if 0 ≤ v9 then
            j63 v9
          else
            j63 (-2 : Int32)
        else
          j32 h5
set_option maxRecDepth 100000 in
set_option maxHeartbeats 4000000 in
theorem c_X11_liesAt (l : Launch) (D : DT) (o : Option Nat) (a1 : Int32) (a2 : Int32) (a3 : Int32) (h : AH) (r : Int32 × AH) (hf : f_X11_liesAt o a1 a2 a3 h = some r) : CM l D yX11_liesAt cX11_liesAt 6 (some .int) 2 43 0 0 [.inr (.inr o), .inl a1, .inl a2, .inl a3] h (some (.int r.1)) r.2 := by
  refine CM.of (by decide) (Nat.le_of_ble_eq_true rfl) (fun X hl C hD hX hnm E => ?_)
  subst hl
  subst hD
  have C : CX X RX11 cX11_liesAt 6 := C
  show WW X h 0 0 0 [some (rB (xD X).1 o), some (.int a1), some (.int a2), some (.int a3), none, none] []
  unfold f_X11_liesAt at hf
  refine s_aload_n C dX11_liesAt_0 rfl ?_
  refine s_getR C fl_X11_10 dX11_liesAt_1 hf (fun v1 hf => ?_)
  refine s_iload_n C dX11_liesAt_4 rfl ?_
  refine s_callV (rvf := fun x => some (rB (xD X).1 x)) (st := []) (fr := 0) (lo := 0) (mc := 0) (ms := 0) C [3] wc_X3_boxAt wml_X11_130 wim_X3_boxAt wsl_3_X3_boxAt dX11_liesAt_5 (As := [.inl a1]) rfl hf (fun x h' hF => c_X3_boxAt _ _ _ _ _ (x, h') hF) rfl (Nat.le_of_ble_eq_true rfl) (room_ok hX (Nat.le_of_ble_eq_true rfl) (Nat.le_of_ble_eq_true rfl)) (cell_ok hX (Nat.le_of_ble_eq_true rfl) (Nat.le_of_ble_eq_true rfl)) (fun v3 h2 hf => ?_)
  refine s_astore C dX11_liesAt_8 (by decide) (nc_i rfl) (lv' := [some (rB (xD X).1 o), some (.int a1), some (.int a2), some (.int a3), some (rB (xD X).1 v3), none]) rfl ?_
  refine s_aload C dX11_liesAt_10 rfl ?_
  refine s_jn hf (fun j32 e32 hf => ?_)
  have k32 : ∀ (h4 : AH), j32 h4 = some r → WW X h4 0 0 32 [none, none, none, none, none, none] [] := by
    intro h4 hf
    rw [e32] at hf
    refine s_iconst C dX11_liesAt_32 (v := (-1 : Int32)) (by decide) ?_
    exact s_ireturn C E dX11_liesAt_33 hf (Nat.le_of_ble_eq_true rfl) (Nat.le_of_ble_eq_true rfl)
  refine s_ifnull (tgt := 32) C dX11_liesAt_12 (by decide) hf (fun hf => ?_) (fun hf => ?_)
  · refine s_weak (lv' := [none, none, none, none, none, none]) trivial ?_
    exact k32 _ hf
  · refine s_iload_n C dX11_liesAt_15 rfl ?_
    refine s_callS (rvf := fun x => some (.int x)) (st := []) (fr := 0) (lo := 0) (mc := 0) (ms := 0) C wc_X11_isDay wml_X11_173 wst_X11_isDay dX11_liesAt_16 (As := [.inl a2]) rfl hf (fun x h' hF => c_X11_isDay _ _ _ _ (x, h') hF) rfl (Nat.le_of_ble_eq_true rfl) (room_ok hX (Nat.le_of_ble_eq_true rfl) (Nat.le_of_ble_eq_true rfl)) (cell_ok hX (Nat.le_of_ble_eq_true rfl) (Nat.le_of_ble_eq_true rfl)) (fun v6 h5 hf => ?_)
    refine s_if_eq (tgt := 32) C dX11_liesAt_19 (by decide) hf (fun hf => ?_) (fun hf => ?_)
    · refine s_weak (lv' := [none, none, none, none, none, none]) trivial ?_
      exact k32 _ hf
    · refine s_iload_n C dX11_liesAt_22 rfl ?_
      refine s_if_lt (tgt := 32) C dX11_liesAt_23 (by decide) hf (fun hf => ?_) (fun hf => ?_)
      · refine s_weak (lv' := [none, none, none, none, none, none]) trivial ?_
        exact k32 _ hf
      · refine s_iload_n C dX11_liesAt_26 rfl ?_
        refine s_bipush C dX11_liesAt_27 (v := (24 : Int32)) (by decide) ?_
        refine s_icmp_lt (tgt := 34) C dX11_liesAt_29 (by decide) hf (fun hf => ?_) (fun hf => ?_)
        · refine s_aload_n C dX11_liesAt_34 rfl ?_
          refine s_getR C fl_X11_10 dX11_liesAt_35 hf (fun v7 hf => ?_)
          refine s_aload C dX11_liesAt_38 rfl ?_
          refine s_bipush C dX11_liesAt_40 (v := (24 : Int32)) (by decide) ?_
          refine s_iload_n C dX11_liesAt_42 rfl ?_
          refine s_imul C dX11_liesAt_43 ?_
          refine s_iload_n C dX11_liesAt_44 rfl ?_
          refine s_iadd C dX11_liesAt_45 ?_
          refine s_callV (rvf := fun x => some (.int x)) (st := []) (fr := 1) (lo := 20) (mc := 0) (ms := 0) C [3] wc_X3_whereLay wml_X11_176 wim_X3_whereLay wsl_3_X3_whereLay dX11_liesAt_46 (As := [.inr (.inr v3), .inl (((24 : Int32) * a2) + a3)]) rfl hf (fun x h' hF => c_X3_whereLay _ _ _ _ _ _ (x, h') hF) rfl (Nat.le_of_ble_eq_true rfl) (room_ok hX (Nat.le_of_ble_eq_true rfl) (Nat.le_of_ble_eq_true rfl)) (cell_ok hX (Nat.le_of_ble_eq_true rfl) (Nat.le_of_ble_eq_true rfl)) (fun v9 h8 hf => ?_)
          refine s_istore C dX11_liesAt_49 (by decide) (nc_r rfl) (lv' := [some (rB (xD X).1 o), some (.int a1), some (.int a2), some (.int a3), some (rB (xD X).1 v3), some (.int v9)]) rfl ?_
          refine s_iload C dX11_liesAt_51 rfl ?_
          refine s_jn hf (fun j63 e63 hf => ?_)
          have k63 : ∀ (x10 : Int32), j63 x10 = some r → WW X h8 0 0 63 [none, none, none, none, none, none] [.int x10] := by
            intro x10 hf
            rw [e63] at hf
            exact s_ireturn C E dX11_liesAt_63 hf (Nat.le_of_ble_eq_true rfl) (Nat.le_of_ble_eq_true rfl)
          refine s_if_ge (tgt := 61) C dX11_liesAt_53 (by decide) hf (fun hf => ?_) (fun hf => ?_)
          · refine s_iload C dX11_liesAt_61 rfl ?_
            refine s_weak (lv' := [none, none, none, none, none, none]) trivial ?_
            exact k63 _ hf
          · refine s_bipush C dX11_liesAt_56 (v := (-2 : Int32)) (by decide) ?_
            refine s_goto (tgt := 63) C dX11_liesAt_58 (by decide) ?_
            refine s_weak (lv' := [none, none, none, none, none, none]) trivial ?_
            exact k63 _ hf
        · refine s_weak (lv' := [none, none, none, none, none, none]) trivial ?_
          exact k32 _ hf
/-- HillBoxes$Logs.recount(LHillBoxes$Box;)V -/
noncomputable def f_X4_recount (o : Option Nat) (a1 : Option Nat) (h : AH) : Option (Unit × AH) :=
  if a1 = none then
    some ((), h)
  else
    pI h [1] a1 12 (0 : Int32) fun h1 =>
    pI h1 [1] a1 13 (0 : Int32) fun h2 =>
    pI h2 [1] a1 14 (-1 : Int32) fun h3 =>
    lp (fun _ _ => none) (fun (L22 : Int32 → AH → Option (Unit × AH)) (x4 : Int32) (h5 : AH) =>
      fI h5 [4] o 2 fun v6 =>
      if v6 ≤ x4 then
        lp (fun _ _ => none) (fun (L101 : Int32 → AH → Option (Unit × AH)) (x7 : Int32) (h8 : AH) =>
          fI h8 [4] o 2 fun v9 =>
          if v9 ≤ x7 then
            some ((), h8)
          else
            fI h8 [1] a1 13 fun v10 =>
            rO h8 [4] o <| cl (f_X4_isMissBehindFound o x7 a1 h8) fun v12 h11 =>
            jn (fun (x13 : Int32) =>
              pI h11 [1] a1 13 (v10 + x13) fun h14 =>
              L101 (x7 + 1) h14) fun j128 =>
            if v12 = 0 then
              j128 (0 : Int32)
            else
              j128 (1 : Int32)) lpN (0 : Int32) h5
      else
        fR h5 [4] o 4 fun v15 =>
        aI h5 20 v15 x4 fun v16 =>
        fI h5 [1] a1 0 fun v17 =>
        jn (fun (h18 : AH) =>
          L22 (x4 + 1) h18) fun j93 =>
        if v16 = v17 then
          fR h5 [4] o 1 fun v19 =>
          aI h5 23 v19 x4 fun v20 =>
          if v20 = 0 then
            j93 h5
          else
            fI h5 [1] a1 12 fun v21 =>
            pI h5 [1] a1 12 (v21 + (1 : Int32)) fun h22 =>
            fI h22 [1] a1 14 fun v23 =>
            jn (fun (x24 : Int32) (h25 : AH) =>
              pI h25 [1] a1 14 x24 fun h26 =>
              j93 h26) fun j90 =>
            jn (fun (h27 : AH) =>
              j90 x4 h27) fun j82 =>
            if v23 < 0 then
              j82 h22
            else
              fI h22 [1] a1 14 fun v28 =>
              rO h22 [4] o <| cl (f_X4_isBehind o x4 v28 h22) fun v30 h29 =>
              if v30 = 0 then
                fI h29 [1] a1 14 fun v31 =>
                j90 v31 h29
              else
                j82 h29
        else
          j93 h5) lpN (0 : Int32) h3
set_option maxRecDepth 100000 in
set_option maxHeartbeats 4000000 in
theorem c_X4_recount (l : Launch) (D : DT) (o : Option Nat) (a1 : Option Nat) (h : AH) (r : Unit × AH) (hf : f_X4_recount o a1 h = some r) : CM l D yX4_recount cX4_recount 3 none 2 44 0 0 [.inr (.inr o), .inr (.inr a1)] h none r.2 := by
  refine CM.of (by decide) (Nat.le_of_ble_eq_true rfl) (fun X hl C hD hX hnm E => ?_)
  subst hl
  subst hD
  have C : CX X RX4 cX4_recount 3 := C
  show WW X h 0 0 0 [some (rB (xD X).1 o), some (rB (xD X).1 a1), none] []
  unfold f_X4_recount at hf
  refine s_aload_n C dX4_recount_0 rfl ?_
  refine s_ifnonnull (tgt := 5) C dX4_recount_1 (by decide) hf (fun hf => ?_) (fun hf => ?_)
  · refine s_aload_n C dX4_recount_5 rfl ?_
    refine s_iconst C dX4_recount_6 (v := (0 : Int32)) (by decide) ?_
    refine s_putI C fl_X4_53 (by decide) dX4_recount_7 hf (fun h1 hf => ?_)
    refine s_aload_n C dX4_recount_10 rfl ?_
    refine s_iconst C dX4_recount_11 (v := (0 : Int32)) (by decide) ?_
    refine s_putI C fl_X4_58 (by decide) dX4_recount_12 hf (fun h2 hf => ?_)
    refine s_aload_n C dX4_recount_15 rfl ?_
    refine s_iconst C dX4_recount_16 (v := (-1 : Int32)) (by decide) ?_
    refine s_putI C fl_X4_61 (by decide) dX4_recount_17 hf (fun h3 hf => ?_)
    refine s_iconst C dX4_recount_20 (v := (0 : Int32)) (by decide) ?_
    refine s_istore_n C dX4_recount_21 (by decide) (nc_r rfl) (lv' := [some (rB (xD X).1 o), some (rB (xD X).1 a1), some (.int (0 : Int32))]) rfl ?_
    refine s_lp2 hf (fun G22 z22 q22 hf => ?_)
    have k22 : ∀ (n : Nat) (x4 : Int32) (h5 : AH), G22 n x4 h5 = some r → WW X h5 0 0 22 [some (rB (xD X).1 o), some (rB (xD X).1 a1), some (.int x4)] [] := by
      intro n
      induction n with
      | zero =>
        intro x4 h5 hf
        rw [z22] at hf
        cases hf
      | succ n ih22 =>
        intro x4 h5 hf
        have hf := (q22 n x4 h5).symm.trans hf
        refine s_iload_n C dX4_recount_22 rfl ?_
        refine s_aload_n C dX4_recount_23 rfl ?_
        refine s_getI C fl_X4_39 dX4_recount_24 hf (fun v6 hf => ?_)
        refine s_icmp_ge (tgt := 99) C dX4_recount_27 (by decide) hf (fun hf => ?_) (fun hf => ?_)
        · refine s_iconst C dX4_recount_99 (v := (0 : Int32)) (by decide) ?_
          refine s_istore_n C dX4_recount_100 (by decide) (nc_r rfl) (lv' := [some (rB (xD X).1 o), some (rB (xD X).1 a1), some (.int (0 : Int32))]) rfl ?_
          refine s_lp2 hf (fun G101 z101 q101 hf => ?_)
          have k101 : ∀ (n : Nat) (x7 : Int32) (h8 : AH), G101 n x7 h8 = some r → WW X h8 0 0 101 [some (rB (xD X).1 o), some (rB (xD X).1 a1), some (.int x7)] [] := by
            intro n
            induction n with
            | zero =>
              intro x7 h8 hf
              rw [z101] at hf
              cases hf
            | succ n ih101 =>
              intro x7 h8 hf
              have hf := (q101 n x7 h8).symm.trans hf
              refine s_iload_n C dX4_recount_101 rfl ?_
              refine s_aload_n C dX4_recount_102 rfl ?_
              refine s_getI C fl_X4_39 dX4_recount_103 hf (fun v9 hf => ?_)
              refine s_icmp_ge (tgt := 138) C dX4_recount_106 (by decide) hf (fun hf => ?_) (fun hf => ?_)
              · exact s_return C E dX4_recount_138 hf (Nat.le_of_ble_eq_true rfl) (Nat.le_of_ble_eq_true rfl)
              · refine s_aload_n C dX4_recount_109 rfl ?_
                refine s_dup C dX4_recount_110 c1_r ?_
                refine s_getI C fl_X4_58 dX4_recount_111 hf (fun v10 hf => ?_)
                refine s_aload_n C dX4_recount_114 rfl ?_
                refine s_iload_n C dX4_recount_115 rfl ?_
                refine s_aload_n C dX4_recount_116 rfl ?_
                refine s_callV (rvf := fun x => some (.int x)) (st := [.int v10, rB (xD X).1 a1]) (fr := 1) (lo := 22) (mc := 0) (ms := 0) C [4] wc_X4_isMissBehindFound wml_X4_71 wim_X4_isMissBehindFound wsl_4_X4_isMissBehindFound dX4_recount_117 (As := [.inl x7, .inr (.inr a1)]) rfl hf (fun x h' hF => c_X4_isMissBehindFound _ _ _ _ _ _ (x, h') hF) rfl (Nat.le_of_ble_eq_true rfl) (room_ok hX (Nat.le_of_ble_eq_true rfl) (Nat.le_of_ble_eq_true rfl)) (cell_ok hX (Nat.le_of_ble_eq_true rfl) (Nat.le_of_ble_eq_true rfl)) (fun v12 h11 hf => ?_)
                refine s_jn hf (fun j128 e128 hf => ?_)
                have k128 : ∀ (x13 : Int32), j128 x13 = some r → WW X h11 0 0 128 [some (rB (xD X).1 o), some (rB (xD X).1 a1), some (.int x7)] [.int x13, .int v10, rB (xD X).1 a1] := by
                  intro x13 hf
                  rw [e128] at hf
                  refine s_iadd C dX4_recount_128 ?_
                  refine s_putI C fl_X4_58 (by decide) dX4_recount_129 hf (fun h14 hf => ?_)
                  refine s_iinc C dX4_recount_132 (v := (x7 + 1)) rfl rfl (by decide) (nc_r rfl) (lv' := [some (rB (xD X).1 o), some (rB (xD X).1 a1), some (.int (x7 + 1))]) rfl ?_
                  refine s_goto (tgt := 101) C dX4_recount_135 (by decide) ?_
                  exact ih101 _ _ hf
                refine s_if_eq (tgt := 127) C dX4_recount_120 (by decide) hf (fun hf => ?_) (fun hf => ?_)
                · refine s_iconst C dX4_recount_127 (v := (0 : Int32)) (by decide) ?_
                  exact k128 _ hf
                · refine s_iconst C dX4_recount_123 (v := (1 : Int32)) (by decide) ?_
                  refine s_goto (tgt := 128) C dX4_recount_124 (by decide) ?_
                  exact k128 _ hf
          exact k101 lpN _ _ hf
        · refine s_aload_n C dX4_recount_30 rfl ?_
          refine s_getR C fl_X4_22 dX4_recount_31 hf (fun v15 hf => ?_)
          refine s_iload_n C dX4_recount_34 rfl ?_
          refine s_iaload C dX4_recount_35 hf (fun v16 hf => ?_)
          refine s_aload_n C dX4_recount_36 rfl ?_
          refine s_getI C fl_X4_64 dX4_recount_37 hf (fun v17 hf => ?_)
          refine s_jn hf (fun j93 e93 hf => ?_)
          have k93 : ∀ (h18 : AH), j93 h18 = some r → WW X h18 0 0 93 [some (rB (xD X).1 o), some (rB (xD X).1 a1), some (.int x4)] [] := by
            intro h18 hf
            rw [e93] at hf
            refine s_iinc C dX4_recount_93 (v := (x4 + 1)) rfl rfl (by decide) (nc_r rfl) (lv' := [some (rB (xD X).1 o), some (rB (xD X).1 a1), some (.int (x4 + 1))]) rfl ?_
            refine s_goto (tgt := 22) C dX4_recount_96 (by decide) ?_
            exact ih22 _ _ hf
          refine s_icmp_ne (tgt := 93) C dX4_recount_40 (by decide) hf (fun hf => ?_) (fun hf => ?_)
          · exact k93 _ hf
          · refine s_aload_n C dX4_recount_43 rfl ?_
            refine s_getR C fl_X4_15 dX4_recount_44 hf (fun v19 hf => ?_)
            refine s_iload_n C dX4_recount_47 rfl ?_
            refine s_zaload C dX4_recount_48 hf (fun v20 hf => ?_)
            refine s_if_eq (tgt := 93) C dX4_recount_49 (by decide) hf (fun hf => ?_) (fun hf => ?_)
            · exact k93 _ hf
            · refine s_aload_n C dX4_recount_52 rfl ?_
              refine s_dup C dX4_recount_53 c1_r ?_
              refine s_getI C fl_X4_53 dX4_recount_54 hf (fun v21 hf => ?_)
              refine s_iconst C dX4_recount_57 (v := (1 : Int32)) (by decide) ?_
              refine s_iadd C dX4_recount_58 ?_
              refine s_putI C fl_X4_53 (by decide) dX4_recount_59 hf (fun h22 hf => ?_)
              refine s_aload_n C dX4_recount_62 rfl ?_
              refine s_aload_n C dX4_recount_63 rfl ?_
              refine s_getI C fl_X4_61 dX4_recount_64 hf (fun v23 hf => ?_)
              refine s_jn hf (fun j90 e90 hf => ?_)
              have k90 : ∀ (x24 : Int32) (h25 : AH), j90 x24 h25 = some r → WW X h25 0 0 90 [some (rB (xD X).1 o), some (rB (xD X).1 a1), some (.int x4)] [.int x24, rB (xD X).1 a1] := by
                intro x24 h25 hf
                rw [e90] at hf
                refine s_putI C fl_X4_61 (by decide) dX4_recount_90 hf (fun h26 hf => ?_)
                exact k93 _ hf
              refine s_jn hf (fun j82 e82 hf => ?_)
              have k82 : ∀ (h27 : AH), j82 h27 = some r → WW X h27 0 0 82 [some (rB (xD X).1 o), some (rB (xD X).1 a1), some (.int x4)] [rB (xD X).1 a1] := by
                intro h27 hf
                rw [e82] at hf
                refine s_iload_n C dX4_recount_82 rfl ?_
                refine s_goto (tgt := 90) C dX4_recount_83 (by decide) ?_
                exact k90 _ _ hf
              refine s_if_lt (tgt := 82) C dX4_recount_67 (by decide) hf (fun hf => ?_) (fun hf => ?_)
              · exact k82 _ hf
              · refine s_aload_n C dX4_recount_70 rfl ?_
                refine s_iload_n C dX4_recount_71 rfl ?_
                refine s_aload_n C dX4_recount_72 rfl ?_
                refine s_getI C fl_X4_61 dX4_recount_73 hf (fun v28 hf => ?_)
                refine s_callV (rvf := fun x => some (.int x)) (st := [rB (xD X).1 a1]) (fr := 0) (lo := 0) (mc := 0) (ms := 0) C [4] wc_X4_isBehind wml_X4_67 wim_X4_isBehind wsl_4_X4_isBehind dX4_recount_76 (As := [.inl x4, .inl v28]) rfl hf (fun x h' hF => c_X4_isBehind _ _ _ _ _ _ (x, h') hF) rfl (Nat.le_of_ble_eq_true rfl) (room_ok hX (Nat.le_of_ble_eq_true rfl) (Nat.le_of_ble_eq_true rfl)) (cell_ok hX (Nat.le_of_ble_eq_true rfl) (Nat.le_of_ble_eq_true rfl)) (fun v30 h29 hf => ?_)
                refine s_if_eq (tgt := 86) C dX4_recount_79 (by decide) hf (fun hf => ?_) (fun hf => ?_)
                · refine s_aload_n C dX4_recount_86 rfl ?_
                  refine s_getI C fl_X4_61 dX4_recount_87 hf (fun v31 hf => ?_)
                  exact k90 _ _ hf
                · exact k82 _ hf
    exact k22 lpN _ _ hf
  · exact s_return C E dX4_recount_4 hf (Nat.le_of_ble_eq_true rfl) (Nat.le_of_ble_eq_true rfl)
/-- HillBoxes$Logs.enter(IIIZ)I -/
noncomputable def f_X4_enter (o : Option Nat) (a1 : Int32) (a2 : Int32) (a3 : Int32) (a4 : Int32) (h : AH) : Option (Int32 × AH) :=
  fR h [4] o 0 fun v1 =>
  fI h [4] o 2 fun v2 =>
  bI h 20 v1 v2 a1 fun h3 =>
  fR h3 [4] o 4 fun v4 =>
  fI h3 [4] o 2 fun v5 =>
  bI h3 20 v4 v5 a2 fun h6 =>
  fR h6 [4] o 5 fun v7 =>
  fI h6 [4] o 2 fun v8 =>
  bI h6 20 v7 v8 a3 fun h9 =>
  fR h9 [4] o 1 fun v10 =>
  fI h9 [4] o 2 fun v11 =>
  bI h9 23 v10 v11 (a4 &&& 1) fun h12 =>
  fI h12 [4] o 2 fun v13 =>
  pI h12 [4] o 2 (v13 + (1 : Int32)) fun h14 =>
  fR h14 [4] o 7 fun v15 =>
  rO h14 [3] v15 <| cl (f_X3_boxAt v15 a2 h14) fun v17 h16 =>
  rO h16 [4] o <| cl (f_X4_recount o v17 h16) fun _ h18 =>
  fI h18 [4] o 2 fun v19 =>
  some ((v19 - (1 : Int32)), h18)
set_option maxRecDepth 100000 in
set_option maxHeartbeats 4000000 in
theorem c_X4_enter (l : Launch) (D : DT) (o : Option Nat) (a1 : Int32) (a2 : Int32) (a3 : Int32) (a4 : Int32) (h : AH) (r : Int32 × AH) (hf : f_X4_enter o a1 a2 a3 a4 h = some r) : CM l D yX4_enter cX4_enter 5 (some .int) 3 66 0 0 [.inr (.inr o), .inl a1, .inl a2, .inl a3, .inl a4] h (some (.int r.1)) r.2 := by
  refine CM.of (by decide) (Nat.le_of_ble_eq_true rfl) (fun X hl C hD hX hnm E => ?_)
  subst hl
  subst hD
  have C : CX X RX4 cX4_enter 5 := C
  show WW X h 0 0 0 [some (rB (xD X).1 o), some (.int a1), some (.int a2), some (.int a3), some (.int a4)] []
  unfold f_X4_enter at hf
  refine s_aload_n C dX4_enter_0 rfl ?_
  refine s_getR C fl_X4_9 dX4_enter_1 hf (fun v1 hf => ?_)
  refine s_aload_n C dX4_enter_4 rfl ?_
  refine s_getI C fl_X4_39 dX4_enter_5 hf (fun v2 hf => ?_)
  refine s_iload_n C dX4_enter_8 rfl ?_
  refine s_iastore C dX4_enter_9 hf (fun h3 hf => ?_)
  refine s_aload_n C dX4_enter_10 rfl ?_
  refine s_getR C fl_X4_22 dX4_enter_11 hf (fun v4 hf => ?_)
  refine s_aload_n C dX4_enter_14 rfl ?_
  refine s_getI C fl_X4_39 dX4_enter_15 hf (fun v5 hf => ?_)
  refine s_iload_n C dX4_enter_18 rfl ?_
  refine s_iastore C dX4_enter_19 hf (fun h6 hf => ?_)
  refine s_aload_n C dX4_enter_20 rfl ?_
  refine s_getR C fl_X4_25 dX4_enter_21 hf (fun v7 hf => ?_)
  refine s_aload_n C dX4_enter_24 rfl ?_
  refine s_getI C fl_X4_39 dX4_enter_25 hf (fun v8 hf => ?_)
  refine s_iload_n C dX4_enter_28 rfl ?_
  refine s_iastore C dX4_enter_29 hf (fun h9 hf => ?_)
  refine s_aload_n C dX4_enter_30 rfl ?_
  refine s_getR C fl_X4_15 dX4_enter_31 hf (fun v10 hf => ?_)
  refine s_aload_n C dX4_enter_34 rfl ?_
  refine s_getI C fl_X4_39 dX4_enter_35 hf (fun v11 hf => ?_)
  refine s_iload C dX4_enter_38 rfl ?_
  refine s_zastore C dX4_enter_40 hf (fun h12 hf => ?_)
  refine s_aload_n C dX4_enter_41 rfl ?_
  refine s_dup C dX4_enter_42 c1_r ?_
  refine s_getI C fl_X4_39 dX4_enter_43 hf (fun v13 hf => ?_)
  refine s_iconst C dX4_enter_46 (v := (1 : Int32)) (by decide) ?_
  refine s_iadd C dX4_enter_47 ?_
  refine s_putI C fl_X4_39 (by decide) dX4_enter_48 hf (fun h14 hf => ?_)
  refine s_aload_n C dX4_enter_51 rfl ?_
  refine s_aload_n C dX4_enter_52 rfl ?_
  refine s_getR C fl_X4_31 dX4_enter_53 hf (fun v15 hf => ?_)
  refine s_iload_n C dX4_enter_56 rfl ?_
  refine s_callV (rvf := fun x => some (rB (xD X).1 x)) (st := [rB (xD X).1 o]) (fr := 0) (lo := 0) (mc := 0) (ms := 0) C [3] wc_X3_boxAt wml_X4_43 wim_X3_boxAt wsl_3_X3_boxAt dX4_enter_57 (As := [.inl a2]) rfl hf (fun x h' hF => c_X3_boxAt _ _ _ _ _ (x, h') hF) rfl (Nat.le_of_ble_eq_true rfl) (room_ok hX (Nat.le_of_ble_eq_true rfl) (Nat.le_of_ble_eq_true rfl)) (cell_ok hX (Nat.le_of_ble_eq_true rfl) (Nat.le_of_ble_eq_true rfl)) (fun v17 h16 hf => ?_)
  refine s_callV (rvf := fun _ => none) (st := []) (fr := 2) (lo := 44) (mc := 0) (ms := 0) C [4] wc_X4_recount wml_X4_49 wim_X4_recount wsl_4_X4_recount dX4_enter_60 (As := [.inr (.inr v17)]) rfl hf (fun x h' hF => c_X4_recount _ _ _ _ _ (x, h') hF) rfl (Nat.le_of_ble_eq_true rfl) (room_ok hX (Nat.le_of_ble_eq_true rfl) (Nat.le_of_ble_eq_true rfl)) (cell_ok hX (Nat.le_of_ble_eq_true rfl) (Nat.le_of_ble_eq_true rfl)) (fun _ h18 hf => ?_)
  refine s_aload_n C dX4_enter_63 rfl ?_
  refine s_getI C fl_X4_39 dX4_enter_64 hf (fun v19 hf => ?_)
  refine s_iconst C dX4_enter_67 (v := (1 : Int32)) (by decide) ?_
  refine s_isub C dX4_enter_68 ?_
  exact s_ireturn C E dX4_enter_69 hf (Nat.le_of_ble_eq_true rfl) (Nat.le_of_ble_eq_true rfl)
/-- HillBoxes.log(IIII)I -/
noncomputable def f_X11_log (o : Option Nat) (a1 : Int32) (a2 : Int32) (a3 : Int32) (a4 : Int32) (h : AH) : Option (Int32 × AH) :=
  fR h [11] o 0 fun v1 =>
  rO h [3] v1 <| cl (f_X3_finderAt v1 a1 h) fun v3 h2 =>
  jn (fun (h4 : AH) =>
    some ((-1 : Int32), h4)) fun j22 =>
  if v3 = none then
    j22 h2
  else
    fR h2 [11] o 0 fun v5 =>
    rO h2 [3] v5 <| cl (f_X3_boxAt v5 a2 h2) fun v7 h6 =>
    if v7 = none then
      j22 h6
    else
      jn (
        some ((-1 : Int32), h6)) fun j55 =>
      if a3 < 0 then
        j55
      else
        fR h6 [11] o 0 fun v8 =>
        fI h6 [3] v8 0 fun v9 =>
        if ((24 : Int32) * (v9 + (1 : Int32))) ≤ a3 then
          j55
        else
          if a4 < 0 then
            j55
          else
            if a4 ≤ (1 : Int32) then
              fR h6 [11] o 2 fun v10 =>
              fI h6 [4] v10 2 fun v11 =>
              if v11 < (300 : Int32) then
                fR h6 [11] o 2 fun v12 =>
                jn (fun (x13 : Int32) =>
                  rO h6 [4] v12 <| cl (f_X4_enter v12 a1 a2 a3 x13 h6) fun v15 h14 =>
                  some (v15, h14)) fun j91 =>
                if a4 = (1 : Int32) then
                  j91 (1 : Int32)
                else
                  j91 (0 : Int32)
              else
                some ((-3 : Int32), h6)
            else
              j55
set_option maxRecDepth 100000 in
set_option maxHeartbeats 4000000 in
theorem c_X11_log (l : Launch) (D : DT) (o : Option Nat) (a1 : Int32) (a2 : Int32) (a3 : Int32) (a4 : Int32) (h : AH) (r : Int32 × AH) (hf : f_X11_log o a1 a2 a3 a4 h = some r) : CM l D yX11_log cX11_log 5 (some .int) 4 90 0 0 [.inr (.inr o), .inl a1, .inl a2, .inl a3, .inl a4] h (some (.int r.1)) r.2 := by
  refine CM.of (by decide) (Nat.le_of_ble_eq_true rfl) (fun X hl C hD hX hnm E => ?_)
  subst hl
  subst hD
  have C : CX X RX11 cX11_log 5 := C
  show WW X h 0 0 0 [some (rB (xD X).1 o), some (.int a1), some (.int a2), some (.int a3), some (.int a4)] []
  unfold f_X11_log at hf
  refine s_aload_n C dX11_log_0 rfl ?_
  refine s_getR C fl_X11_10 dX11_log_1 hf (fun v1 hf => ?_)
  refine s_iload_n C dX11_log_4 rfl ?_
  refine s_callV (rvf := fun x => some (rB (xD X).1 x)) (st := []) (fr := 0) (lo := 0) (mc := 0) (ms := 0) C [3] wc_X3_finderAt wml_X11_90 wim_X3_finderAt wsl_3_X3_finderAt dX11_log_5 (As := [.inl a1]) rfl hf (fun x h' hF => c_X3_finderAt _ _ _ _ _ (x, h') hF) rfl (Nat.le_of_ble_eq_true rfl) (room_ok hX (Nat.le_of_ble_eq_true rfl) (Nat.le_of_ble_eq_true rfl)) (cell_ok hX (Nat.le_of_ble_eq_true rfl) (Nat.le_of_ble_eq_true rfl)) (fun v3 h2 hf => ?_)
  refine s_jn hf (fun j22 e22 hf => ?_)
  have k22 : ∀ (h4 : AH), j22 h4 = some r → WW X h4 0 0 22 [none, none, none, none, none] [] := by
    intro h4 hf
    rw [e22] at hf
    refine s_iconst C dX11_log_22 (v := (-1 : Int32)) (by decide) ?_
    exact s_ireturn C E dX11_log_23 hf (Nat.le_of_ble_eq_true rfl) (Nat.le_of_ble_eq_true rfl)
  refine s_ifnull (tgt := 22) C dX11_log_8 (by decide) hf (fun hf => ?_) (fun hf => ?_)
  · refine s_weak (lv' := [none, none, none, none, none]) trivial ?_
    exact k22 _ hf
  · refine s_aload_n C dX11_log_11 rfl ?_
    refine s_getR C fl_X11_10 dX11_log_12 hf (fun v5 hf => ?_)
    refine s_iload_n C dX11_log_15 rfl ?_
    refine s_callV (rvf := fun x => some (rB (xD X).1 x)) (st := []) (fr := 0) (lo := 0) (mc := 0) (ms := 0) C [3] wc_X3_boxAt wml_X11_130 wim_X3_boxAt wsl_3_X3_boxAt dX11_log_16 (As := [.inl a2]) rfl hf (fun x h' hF => c_X3_boxAt _ _ _ _ _ (x, h') hF) rfl (Nat.le_of_ble_eq_true rfl) (room_ok hX (Nat.le_of_ble_eq_true rfl) (Nat.le_of_ble_eq_true rfl)) (cell_ok hX (Nat.le_of_ble_eq_true rfl) (Nat.le_of_ble_eq_true rfl)) (fun v7 h6 hf => ?_)
    refine s_ifnonnull (tgt := 24) C dX11_log_19 (by decide) hf (fun hf => ?_) (fun hf => ?_)
    · refine s_iload_n C dX11_log_24 rfl ?_
      refine s_jn hf (fun j55 e55 hf => ?_)
      have k55 : j55  = some r → WW X h6 0 0 55 [none, none, none, none, none] [] := by
        intro  hf
        rw [e55] at hf
        refine s_iconst C dX11_log_55 (v := (-1 : Int32)) (by decide) ?_
        exact s_ireturn C E dX11_log_56 hf (Nat.le_of_ble_eq_true rfl) (Nat.le_of_ble_eq_true rfl)
      refine s_if_lt (tgt := 55) C dX11_log_25 (by decide) hf (fun hf => ?_) (fun hf => ?_)
      · refine s_weak (lv' := [none, none, none, none, none]) trivial ?_
        exact k55 hf
      · refine s_iload_n C dX11_log_28 rfl ?_
        refine s_bipush C dX11_log_29 (v := (24 : Int32)) (by decide) ?_
        refine s_aload_n C dX11_log_31 rfl ?_
        refine s_getR C fl_X11_10 dX11_log_32 hf (fun v8 hf => ?_)
        refine s_getI C fl_X11_52 dX11_log_35 hf (fun v9 hf => ?_)
        refine s_iconst C dX11_log_38 (v := (1 : Int32)) (by decide) ?_
        refine s_iadd C dX11_log_39 ?_
        refine s_imul C dX11_log_40 ?_
        refine s_icmp_ge (tgt := 55) C dX11_log_41 (by decide) hf (fun hf => ?_) (fun hf => ?_)
        · refine s_weak (lv' := [none, none, none, none, none]) trivial ?_
          exact k55 hf
        · refine s_iload C dX11_log_44 rfl ?_
          refine s_if_lt (tgt := 55) C dX11_log_46 (by decide) hf (fun hf => ?_) (fun hf => ?_)
          · refine s_weak (lv' := [none, none, none, none, none]) trivial ?_
            exact k55 hf
          · refine s_iload C dX11_log_49 rfl ?_
            refine s_iconst C dX11_log_51 (v := (1 : Int32)) (by decide) ?_
            refine s_icmp_le (tgt := 57) C dX11_log_52 (by decide) hf (fun hf => ?_) (fun hf => ?_)
            · refine s_aload_n C dX11_log_57 rfl ?_
              refine s_getR C fl_X11_30 dX11_log_58 hf (fun v10 hf => ?_)
              refine s_getI C fl_X11_285 dX11_log_61 hf (fun v11 hf => ?_)
              refine s_sipush C dX11_log_64 (v := (300 : Int32)) (by decide) ?_
              refine s_icmp_lt (tgt := 73) C dX11_log_67 (by decide) hf (fun hf => ?_) (fun hf => ?_)
              · refine s_aload_n C dX11_log_73 rfl ?_
                refine s_getR C fl_X11_30 dX11_log_74 hf (fun v12 hf => ?_)
                refine s_iload_n C dX11_log_77 rfl ?_
                refine s_iload_n C dX11_log_78 rfl ?_
                refine s_iload_n C dX11_log_79 rfl ?_
                refine s_iload C dX11_log_80 rfl ?_
                refine s_iconst C dX11_log_82 (v := (1 : Int32)) (by decide) ?_
                refine s_jn hf (fun j91 e91 hf => ?_)
                have k91 : ∀ (x13 : Int32), j91 x13 = some r → WW X h6 0 0 91 [none, none, none, none, none] [.int x13, .int a3, .int a2, .int a1, rB (xD X).1 v12] := by
                  intro x13 hf
                  rw [e91] at hf
                  refine s_callV (rvf := fun x => some (.int x)) (st := []) (fr := 3) (lo := 66) (mc := 0) (ms := 0) C [4] wc_X4_enter wml_X11_286 wim_X4_enter wsl_4_X4_enter dX11_log_91 (As := [.inl a1, .inl a2, .inl a3, .inl x13]) rfl hf (fun x h' hF => c_X4_enter _ _ _ _ _ _ _ _ (x, h') hF) rfl (Nat.le_of_ble_eq_true rfl) (room_ok hX (Nat.le_of_ble_eq_true rfl) (Nat.le_of_ble_eq_true rfl)) (cell_ok hX (Nat.le_of_ble_eq_true rfl) (Nat.le_of_ble_eq_true rfl)) (fun v15 h14 hf => ?_)
                  exact s_ireturn C E dX11_log_94 hf (Nat.le_of_ble_eq_true rfl) (Nat.le_of_ble_eq_true rfl)
                refine s_icmp_ne (tgt := 90) C dX11_log_83 (by decide) hf (fun hf => ?_) (fun hf => ?_)
                · refine s_iconst C dX11_log_90 (v := (0 : Int32)) (by decide) ?_
                  refine s_weak (lv' := [none, none, none, none, none]) trivial ?_
                  exact k91 _ hf
                · refine s_iconst C dX11_log_86 (v := (1 : Int32)) (by decide) ?_
                  refine s_goto (tgt := 91) C dX11_log_87 (by decide) ?_
                  refine s_weak (lv' := [none, none, none, none, none]) trivial ?_
                  exact k91 _ hf
              · refine s_bipush C dX11_log_70 (v := (-3 : Int32)) (by decide) ?_
                exact s_ireturn C E dX11_log_72 hf (Nat.le_of_ble_eq_true rfl) (Nat.le_of_ble_eq_true rfl)
            · refine s_weak (lv' := [none, none, none, none, none]) trivial ?_
              exact k55 hf
    · refine s_weak (lv' := [none, none, none, none, none]) trivial ?_
      exact k22 _ hf
/-- HillBoxes$Box.isLookedAt()Z -/
noncomputable def f_X1_isLookedAt (o : Option Nat) (h : AH) : Option (Int32 × AH) :=
  fI h [1] o 18 fun v1 =>
  jn (fun (x2 : Int32) =>
    rz x2 h) fun j12 =>
  if v1 < 0 then
    j12 (0 : Int32)
  else
    j12 (1 : Int32)
set_option maxRecDepth 100000 in
set_option maxHeartbeats 4000000 in
theorem c_X1_isLookedAt (l : Launch) (D : DT) (o : Option Nat) (h : AH) (r : Int32 × AH) (hf : f_X1_isLookedAt o h = some r) : CM l D yX1_isLookedAt cX1_isLookedAt 1 (some .boolean) 0 0 0 0 [.inr (.inr o)] h (some (.int r.1)) r.2 := by
  refine CM.of (by decide) (Nat.le_of_ble_eq_true rfl) (fun X hl C hD hX hnm E => ?_)
  subst hl
  subst hD
  have C : CX X RX1 cX1_isLookedAt 1 := C
  show WW X h 0 0 0 [some (rB (xD X).1 o)] []
  unfold f_X1_isLookedAt at hf
  refine s_aload_n C dX1_isLookedAt_0 rfl ?_
  refine s_getI C fl_X1_28 dX1_isLookedAt_1 hf (fun v1 hf => ?_)
  refine s_jn hf (fun j12 e12 hf => ?_)
  have k12 : ∀ (x2 : Int32), j12 x2 = some r → WW X h 0 0 12 [none] [.int x2] := by
    intro x2 hf
    rw [e12] at hf
    exact s_zreturn C E dX1_isLookedAt_12 hf (Nat.le_of_ble_eq_true rfl) (Nat.le_of_ble_eq_true rfl)
  refine s_if_lt (tgt := 11) C dX1_isLookedAt_4 (by decide) hf (fun hf => ?_) (fun hf => ?_)
  · refine s_iconst C dX1_isLookedAt_11 (v := (0 : Int32)) (by decide) ?_
    refine s_weak (lv' := [none]) trivial ?_
    exact k12 _ hf
  · refine s_iconst C dX1_isLookedAt_7 (v := (1 : Int32)) (by decide) ?_
    refine s_goto (tgt := 12) C dX1_isLookedAt_8 (by decide) ?_
    refine s_weak (lv' := [none]) trivial ?_
    exact k12 _ hf
/-- HillBoxes.lookAt(II)I -/
noncomputable def f_X11_lookAt (o : Option Nat) (a1 : Int32) (a2 : Int32) (h : AH) : Option (Int32 × AH) :=
  fR h [11] o 0 fun v1 =>
  rO h [3] v1 <| cl (f_X3_boxAt v1 a1 h) fun v3 h2 =>
  jn (
    some ((-1 : Int32), h2)) fun j22 =>
  if v3 = none then
    j22
  else
    if a2 < 0 then
      j22
    else
      if a2 ≤ (1 : Int32) then
        fI h2 [1] v3 12 fun v4 =>
        jn (fun (h5 : AH) =>
          some ((-2 : Int32), h5)) fun j45 =>
        if 0 < v4 then
          j45 h2
        else
          rO h2 [1] v3 <| cl (f_X1_isDown v3 h2) fun v7 h6 =>
          if v7 = 0 then
            rO h6 [1] v3 <| cl (f_X1_isLookedAt v3 h6) fun v9 h8 =>
            if v9 = 0 then
              pI h8 [1] v3 18 a2 fun h10 =>
              lp (fun _ _ _ => none) (fun (L59 : Int32 → Int32 → AH → Option (Int32 × AH)) (x11 : Int32) (x12 : Int32) (h13 : AH) =>
                fR h13 [11] o 0 fun v14 =>
                fI h13 [3] v14 3 fun v15 =>
                if v15 ≤ x12 then
                  some (x11, h13)
                else
                  fR h13 [11] o 0 fun v16 =>
                  rO h13 [3] v16 <| cl (f_X3_boxAt v16 x12 h13) fun v18 h17 =>
                  jn (fun (x19 : Int32) (h20 : AH) =>
                    L59 x19 (x12 + 1) h20) fun j98 =>
                  if v18 = none then
                    j98 x11 h17
                  else
                    rO h17 [1] v18 <| cl (f_X1_isLookedAt v18 h17) fun v22 h21 =>
                    if v22 = 0 then
                      j98 x11 h21
                    else
                      j98 (x11 + 1) h21) lpN (0 : Int32) (0 : Int32) h10
            else
              j45 h8
          else
            j45 h6
      else
        j22
set_option maxRecDepth 100000 in
set_option maxHeartbeats 4000000 in
theorem c_X11_lookAt (l : Launch) (D : DT) (o : Option Nat) (a1 : Int32) (a2 : Int32) (h : AH) (r : Int32 × AH) (hf : f_X11_lookAt o a1 a2 h = some r) : CM l D yX11_lookAt cX11_lookAt 7 (some .int) 1 22 0 0 [.inr (.inr o), .inl a1, .inl a2] h (some (.int r.1)) r.2 := by
  refine CM.of (by decide) (Nat.le_of_ble_eq_true rfl) (fun X hl C hD hX hnm E => ?_)
  subst hl
  subst hD
  have C : CX X RX11 cX11_lookAt 7 := C
  show WW X h 0 0 0 [some (rB (xD X).1 o), some (.int a1), some (.int a2), none, none, none, none] []
  unfold f_X11_lookAt at hf
  refine s_aload_n C dX11_lookAt_0 rfl ?_
  refine s_getR C fl_X11_10 dX11_lookAt_1 hf (fun v1 hf => ?_)
  refine s_iload_n C dX11_lookAt_4 rfl ?_
  refine s_callV (rvf := fun x => some (rB (xD X).1 x)) (st := []) (fr := 0) (lo := 0) (mc := 0) (ms := 0) C [3] wc_X3_boxAt wml_X11_130 wim_X3_boxAt wsl_3_X3_boxAt dX11_lookAt_5 (As := [.inl a1]) rfl hf (fun x h' hF => c_X3_boxAt _ _ _ _ _ (x, h') hF) rfl (Nat.le_of_ble_eq_true rfl) (room_ok hX (Nat.le_of_ble_eq_true rfl) (Nat.le_of_ble_eq_true rfl)) (cell_ok hX (Nat.le_of_ble_eq_true rfl) (Nat.le_of_ble_eq_true rfl)) (fun v3 h2 hf => ?_)
  refine s_astore_n C dX11_lookAt_8 (by decide) (nc_i rfl) (lv' := [some (rB (xD X).1 o), some (.int a1), some (.int a2), some (rB (xD X).1 v3), none, none, none]) rfl ?_
  refine s_aload_n C dX11_lookAt_9 rfl ?_
  refine s_jn hf (fun j22 e22 hf => ?_)
  have k22 : j22  = some r → WW X h2 0 0 22 [none, none, none, none, none, none, none] [] := by
    intro  hf
    rw [e22] at hf
    refine s_iconst C dX11_lookAt_22 (v := (-1 : Int32)) (by decide) ?_
    exact s_ireturn C E dX11_lookAt_23 hf (Nat.le_of_ble_eq_true rfl) (Nat.le_of_ble_eq_true rfl)
  refine s_ifnull (tgt := 22) C dX11_lookAt_10 (by decide) hf (fun hf => ?_) (fun hf => ?_)
  · refine s_weak (lv' := [none, none, none, none, none, none, none]) trivial ?_
    exact k22 hf
  · refine s_iload_n C dX11_lookAt_13 rfl ?_
    refine s_if_lt (tgt := 22) C dX11_lookAt_14 (by decide) hf (fun hf => ?_) (fun hf => ?_)
    · refine s_weak (lv' := [none, none, none, none, none, none, none]) trivial ?_
      exact k22 hf
    · refine s_iload_n C dX11_lookAt_17 rfl ?_
      refine s_iconst C dX11_lookAt_18 (v := (1 : Int32)) (by decide) ?_
      refine s_icmp_le (tgt := 24) C dX11_lookAt_19 (by decide) hf (fun hf => ?_) (fun hf => ?_)
      · refine s_aload_n C dX11_lookAt_24 rfl ?_
        refine s_getI C fl_X11_410 dX11_lookAt_25 hf (fun v4 hf => ?_)
        refine s_jn hf (fun j45 e45 hf => ?_)
        have k45 : ∀ (h5 : AH), j45 h5 = some r → WW X h5 0 0 45 [none, none, none, none, none, none, none] [] := by
          intro h5 hf
          rw [e45] at hf
          refine s_bipush C dX11_lookAt_45 (v := (-2 : Int32)) (by decide) ?_
          exact s_ireturn C E dX11_lookAt_47 hf (Nat.le_of_ble_eq_true rfl) (Nat.le_of_ble_eq_true rfl)
        refine s_if_gt (tgt := 45) C dX11_lookAt_28 (by decide) hf (fun hf => ?_) (fun hf => ?_)
        · refine s_weak (lv' := [none, none, none, none, none, none, none]) trivial ?_
          exact k45 _ hf
        · refine s_aload_n C dX11_lookAt_31 rfl ?_
          refine s_callV (rvf := fun x => some (.int x)) (st := []) (fr := 0) (lo := 0) (mc := 0) (ms := 0) C [1] wc_X1_isDown wml_X11_137 wim_X1_isDown wsl_1_X1_isDown dX11_lookAt_32 (As := []) rfl hf (fun x h' hF => c_X1_isDown _ _ _ _ (x, h') hF) rfl (Nat.le_of_ble_eq_true rfl) (room_ok hX (Nat.le_of_ble_eq_true rfl) (Nat.le_of_ble_eq_true rfl)) (cell_ok hX (Nat.le_of_ble_eq_true rfl) (Nat.le_of_ble_eq_true rfl)) (fun v7 h6 hf => ?_)
          refine s_if_ne (tgt := 45) C dX11_lookAt_35 (by decide) hf (fun hf => ?_) (fun hf => ?_)
          · refine s_weak (lv' := [none, none, none, none, none, none, none]) trivial ?_
            exact k45 _ hf
          · refine s_aload_n C dX11_lookAt_38 rfl ?_
            refine s_callV (rvf := fun x => some (.int x)) (st := []) (fr := 0) (lo := 0) (mc := 0) (ms := 0) C [1] wc_X1_isLookedAt wml_X11_413 wim_X1_isLookedAt wsl_1_X1_isLookedAt dX11_lookAt_39 (As := []) rfl hf (fun x h' hF => c_X1_isLookedAt _ _ _ _ (x, h') hF) rfl (Nat.le_of_ble_eq_true rfl) (room_ok hX (Nat.le_of_ble_eq_true rfl) (Nat.le_of_ble_eq_true rfl)) (cell_ok hX (Nat.le_of_ble_eq_true rfl) (Nat.le_of_ble_eq_true rfl)) (fun v9 h8 hf => ?_)
            refine s_if_eq (tgt := 48) C dX11_lookAt_42 (by decide) hf (fun hf => ?_) (fun hf => ?_)
            · refine s_aload_n C dX11_lookAt_48 rfl ?_
              refine s_iload_n C dX11_lookAt_49 rfl ?_
              refine s_putI C fl_X11_416 (by decide) dX11_lookAt_50 hf (fun h10 hf => ?_)
              refine s_iconst C dX11_lookAt_53 (v := (0 : Int32)) (by decide) ?_
              refine s_istore C dX11_lookAt_54 (by decide) (nc_r rfl) (lv' := [some (rB (xD X).1 o), some (.int a1), some (.int a2), some (rB (xD X).1 v3), some (.int (0 : Int32)), none, none]) rfl ?_
              refine s_iconst C dX11_lookAt_56 (v := (0 : Int32)) (by decide) ?_
              refine s_istore C dX11_lookAt_57 (by decide) (nc_i rfl) (lv' := [some (rB (xD X).1 o), some (.int a1), some (.int a2), some (rB (xD X).1 v3), some (.int (0 : Int32)), some (.int (0 : Int32)), none]) rfl ?_
              refine s_lp3 hf (fun G59 z59 q59 hf => ?_)
              have k59 : ∀ (n : Nat) (x11 : Int32) (x12 : Int32) (h13 : AH), G59 n x11 x12 h13 = some r → WW X h13 0 0 59 [some (rB (xD X).1 o), none, none, none, some (.int x11), some (.int x12), none] [] := by
                intro n
                induction n with
                | zero =>
                  intro x11 x12 h13 hf
                  rw [z59] at hf
                  cases hf
                | succ n ih59 =>
                  intro x11 x12 h13 hf
                  have hf := (q59 n x11 x12 h13).symm.trans hf
                  refine s_iload C dX11_lookAt_59 rfl ?_
                  refine s_aload_n C dX11_lookAt_61 rfl ?_
                  refine s_getR C fl_X11_10 dX11_lookAt_62 hf (fun v14 hf => ?_)
                  refine s_getI C fl_X11_70 dX11_lookAt_65 hf (fun v15 hf => ?_)
                  refine s_icmp_ge (tgt := 104) C dX11_lookAt_68 (by decide) hf (fun hf => ?_) (fun hf => ?_)
                  · refine s_iload C dX11_lookAt_104 rfl ?_
                    exact s_ireturn C E dX11_lookAt_106 hf (Nat.le_of_ble_eq_true rfl) (Nat.le_of_ble_eq_true rfl)
                  · refine s_aload_n C dX11_lookAt_71 rfl ?_
                    refine s_getR C fl_X11_10 dX11_lookAt_72 hf (fun v16 hf => ?_)
                    refine s_iload C dX11_lookAt_75 rfl ?_
                    refine s_callV (rvf := fun x => some (rB (xD X).1 x)) (st := []) (fr := 0) (lo := 0) (mc := 0) (ms := 0) C [3] wc_X3_boxAt wml_X11_130 wim_X3_boxAt wsl_3_X3_boxAt dX11_lookAt_77 (As := [.inl x12]) rfl hf (fun x h' hF => c_X3_boxAt _ _ _ _ _ (x, h') hF) rfl (Nat.le_of_ble_eq_true rfl) (room_ok hX (Nat.le_of_ble_eq_true rfl) (Nat.le_of_ble_eq_true rfl)) (cell_ok hX (Nat.le_of_ble_eq_true rfl) (Nat.le_of_ble_eq_true rfl)) (fun v18 h17 hf => ?_)
                    refine s_astore C dX11_lookAt_80 (by decide) (nc_i rfl) (lv' := [some (rB (xD X).1 o), none, none, none, some (.int x11), some (.int x12), some (rB (xD X).1 v18)]) rfl ?_
                    refine s_aload C dX11_lookAt_82 rfl ?_
                    refine s_jn hf (fun j98 e98 hf => ?_)
                    have k98 : ∀ (x19 : Int32) (h20 : AH), j98 x19 h20 = some r → WW X h20 0 0 98 [some (rB (xD X).1 o), none, none, none, some (.int x19), some (.int x12), none] [] := by
                      intro x19 h20 hf
                      rw [e98] at hf
                      refine s_iinc C dX11_lookAt_98 (v := (x12 + 1)) rfl rfl (by decide) (nc_i rfl) (lv' := [some (rB (xD X).1 o), none, none, none, some (.int x19), some (.int (x12 + 1)), none]) rfl ?_
                      refine s_goto (tgt := 59) C dX11_lookAt_101 (by decide) ?_
                      exact ih59 _ _ _ hf
                    refine s_ifnull (tgt := 98) C dX11_lookAt_84 (by decide) hf (fun hf => ?_) (fun hf => ?_)
                    · refine s_weak (lv' := [some (rB (xD X).1 o), none, none, none, some (.int x11), some (.int x12), none]) ⟨rfl, ⟨rfl, ⟨rfl, trivial⟩⟩⟩ ?_
                      exact k98 _ _ hf
                    · refine s_aload C dX11_lookAt_87 rfl ?_
                      refine s_callV (rvf := fun x => some (.int x)) (st := []) (fr := 0) (lo := 0) (mc := 0) (ms := 0) C [1] wc_X1_isLookedAt wml_X11_413 wim_X1_isLookedAt wsl_1_X1_isLookedAt dX11_lookAt_89 (As := []) rfl hf (fun x h' hF => c_X1_isLookedAt _ _ _ _ (x, h') hF) rfl (Nat.le_of_ble_eq_true rfl) (room_ok hX (Nat.le_of_ble_eq_true rfl) (Nat.le_of_ble_eq_true rfl)) (cell_ok hX (Nat.le_of_ble_eq_true rfl) (Nat.le_of_ble_eq_true rfl)) (fun v22 h21 hf => ?_)
                      refine s_if_eq (tgt := 98) C dX11_lookAt_92 (by decide) hf (fun hf => ?_) (fun hf => ?_)
                      · refine s_weak (lv' := [some (rB (xD X).1 o), none, none, none, some (.int x11), some (.int x12), none]) ⟨rfl, ⟨rfl, ⟨rfl, trivial⟩⟩⟩ ?_
                        exact k98 _ _ hf
                      · refine s_iinc C dX11_lookAt_95 (v := (x11 + 1)) rfl rfl (by decide) (nc_n rfl) (lv' := [some (rB (xD X).1 o), none, none, none, some (.int (x11 + 1)), some (.int x12), some (rB (xD X).1 v18)]) rfl ?_
                        refine s_weak (lv' := [some (rB (xD X).1 o), none, none, none, some (.int (x11 + 1)), some (.int x12), none]) ⟨rfl, ⟨rfl, ⟨rfl, trivial⟩⟩⟩ ?_
                        exact k98 _ _ hf
              refine s_weak (lv' := [some (rB (xD X).1 o), none, none, none, some (.int (0 : Int32)), some (.int (0 : Int32)), none]) ⟨rfl, ⟨rfl, ⟨rfl, trivial⟩⟩⟩ ?_
              exact k59 lpN _ _ _ hf
            · refine s_weak (lv' := [none, none, none, none, none, none, none]) trivial ?_
              exact k45 _ hf
      · refine s_weak (lv' := [none, none, none, none, none, none, none]) trivial ?_
        exact k22 hf
/-- HillBoxes$Hills.moveTo(LHillBoxes$Box;II)V -/
noncomputable def f_X3_moveTo (o : Option Nat) (a1 : Option Nat) (a2 : Int32) (a3 : Int32) (h : AH) : Option (Unit × AH) :=
  fR h [3] o 6 fun v1 =>
  fI h [3] o 9 fun v2 =>
  fI h [1] a1 0 fun v3 =>
  bI h 20 v1 v2 v3 fun h4 =>
  fR h4 [3] o 7 fun v5 =>
  fI h4 [3] o 9 fun v6 =>
  bI h4 20 v5 v6 a3 fun h7 =>
  fR h7 [3] o 8 fun v8 =>
  fI h7 [3] o 9 fun v9 =>
  bI h7 20 v8 v9 a2 fun h10 =>
  fI h10 [3] o 9 fun v11 =>
  pI h10 [3] o 9 (v11 + (1 : Int32)) fun h12 =>
  pI h12 [1] a1 9 a2 fun h13 =>
  some ((), h13)
set_option maxRecDepth 100000 in
set_option maxHeartbeats 4000000 in
theorem c_X3_moveTo (l : Launch) (D : DT) (o : Option Nat) (a1 : Option Nat) (a2 : Int32) (a3 : Int32) (h : AH) (r : Unit × AH) (hf : f_X3_moveTo o a1 a2 a3 h = some r) : CM l D yX3_moveTo cX3_moveTo 4 none 0 0 0 0 [.inr (.inr o), .inr (.inr a1), .inl a2, .inl a3] h none r.2 := by
  refine CM.of (by decide) (Nat.le_of_ble_eq_true rfl) (fun X hl C hD hX hnm E => ?_)
  subst hl
  subst hD
  have C : CX X RX3 cX3_moveTo 4 := C
  show WW X h 0 0 0 [some (rB (xD X).1 o), some (rB (xD X).1 a1), some (.int a2), some (.int a3)] []
  unfold f_X3_moveTo at hf
  refine s_aload_n C dX3_moveTo_0 rfl ?_
  refine s_getR C fl_X3_24 dX3_moveTo_1 hf (fun v1 hf => ?_)
  refine s_aload_n C dX3_moveTo_4 rfl ?_
  refine s_getI C fl_X3_62 dX3_moveTo_5 hf (fun v2 hf => ?_)
  refine s_aload_n C dX3_moveTo_8 rfl ?_
  refine s_getI C fl_X3_65 dX3_moveTo_9 hf (fun v3 hf => ?_)
  refine s_iastore C dX3_moveTo_12 hf (fun h4 hf => ?_)
  refine s_aload_n C dX3_moveTo_13 rfl ?_
  refine s_getR C fl_X3_27 dX3_moveTo_14 hf (fun v5 hf => ?_)
  refine s_aload_n C dX3_moveTo_17 rfl ?_
  refine s_getI C fl_X3_62 dX3_moveTo_18 hf (fun v6 hf => ?_)
  refine s_iload_n C dX3_moveTo_21 rfl ?_
  refine s_iastore C dX3_moveTo_22 hf (fun h7 hf => ?_)
  refine s_aload_n C dX3_moveTo_23 rfl ?_
  refine s_getR C fl_X3_30 dX3_moveTo_24 hf (fun v8 hf => ?_)
  refine s_aload_n C dX3_moveTo_27 rfl ?_
  refine s_getI C fl_X3_62 dX3_moveTo_28 hf (fun v9 hf => ?_)
  refine s_iload_n C dX3_moveTo_31 rfl ?_
  refine s_iastore C dX3_moveTo_32 hf (fun h10 hf => ?_)
  refine s_aload_n C dX3_moveTo_33 rfl ?_
  refine s_dup C dX3_moveTo_34 c1_r ?_
  refine s_getI C fl_X3_62 dX3_moveTo_35 hf (fun v11 hf => ?_)
  refine s_iconst C dX3_moveTo_38 (v := (1 : Int32)) (by decide) ?_
  refine s_iadd C dX3_moveTo_39 ?_
  refine s_putI C fl_X3_62 (by decide) dX3_moveTo_40 hf (fun h12 hf => ?_)
  refine s_aload_n C dX3_moveTo_43 rfl ?_
  refine s_iload_n C dX3_moveTo_44 rfl ?_
  refine s_putI C fl_X3_66 (by decide) dX3_moveTo_45 hf (fun h13 hf => ?_)
  exact s_return C E dX3_moveTo_48 hf (Nat.le_of_ble_eq_true rfl) (Nat.le_of_ble_eq_true rfl)
/-- HillBoxes$Hills.wasMovedFrom(II)Z -/
noncomputable def f_X3_wasMovedFrom (o : Option Nat) (a1 : Int32) (a2 : Int32) (h : AH) : Option (Int32 × AH) :=
  lp (fun _ => none) (fun (L2 : Int32 → Option (Int32 × AH)) (x1 : Int32) =>
    fI h [3] o 9 fun v2 =>
    if v2 ≤ x1 then
      rz (0 : Int32) h
    else
      fR h [3] o 6 fun v3 =>
      aI h 20 v3 x1 fun v4 =>
      jn (
        L2 (x1 + 1)) fun j32 =>
      if v4 = a1 then
        fR h [3] o 7 fun v5 =>
        aI h 20 v5 x1 fun v6 =>
        if v6 < a2 then
          j32
        else
          rz (1 : Int32) h
      else
        j32) lpN (0 : Int32)
set_option maxRecDepth 100000 in
set_option maxHeartbeats 4000000 in
theorem c_X3_wasMovedFrom (l : Launch) (D : DT) (o : Option Nat) (a1 : Int32) (a2 : Int32) (h : AH) (r : Int32 × AH) (hf : f_X3_wasMovedFrom o a1 a2 h = some r) : CM l D yX3_wasMovedFrom cX3_wasMovedFrom 4 (some .boolean) 0 0 0 0 [.inr (.inr o), .inl a1, .inl a2] h (some (.int r.1)) r.2 := by
  refine CM.of (by decide) (Nat.le_of_ble_eq_true rfl) (fun X hl C hD hX hnm E => ?_)
  subst hl
  subst hD
  have C : CX X RX3 cX3_wasMovedFrom 4 := C
  show WW X h 0 0 0 [some (rB (xD X).1 o), some (.int a1), some (.int a2), none] []
  unfold f_X3_wasMovedFrom at hf
  refine s_iconst C dX3_wasMovedFrom_0 (v := (0 : Int32)) (by decide) ?_
  refine s_istore_n C dX3_wasMovedFrom_1 (by decide) (nc_i rfl) (lv' := [some (rB (xD X).1 o), some (.int a1), some (.int a2), some (.int (0 : Int32))]) rfl ?_
  refine s_lp1 hf (fun G2 z2 q2 hf => ?_)
  have k2 : ∀ (n : Nat) (x1 : Int32), G2 n x1 = some r → WW X h 0 0 2 [some (rB (xD X).1 o), some (.int a1), some (.int a2), some (.int x1)] [] := by
    intro n
    induction n with
    | zero =>
      intro x1 hf
      rw [z2] at hf
      cases hf
    | succ n ih2 =>
      intro x1 hf
      have hf := (q2 n x1).symm.trans hf
      refine s_iload_n C dX3_wasMovedFrom_2 rfl ?_
      refine s_aload_n C dX3_wasMovedFrom_3 rfl ?_
      refine s_getI C fl_X3_62 dX3_wasMovedFrom_4 hf (fun v2 hf => ?_)
      refine s_icmp_ge (tgt := 38) C dX3_wasMovedFrom_7 (by decide) hf (fun hf => ?_) (fun hf => ?_)
      · refine s_iconst C dX3_wasMovedFrom_38 (v := (0 : Int32)) (by decide) ?_
        exact s_zreturn C E dX3_wasMovedFrom_39 hf (Nat.le_of_ble_eq_true rfl) (Nat.le_of_ble_eq_true rfl)
      · refine s_aload_n C dX3_wasMovedFrom_10 rfl ?_
        refine s_getR C fl_X3_24 dX3_wasMovedFrom_11 hf (fun v3 hf => ?_)
        refine s_iload_n C dX3_wasMovedFrom_14 rfl ?_
        refine s_iaload C dX3_wasMovedFrom_15 hf (fun v4 hf => ?_)
        refine s_iload_n C dX3_wasMovedFrom_16 rfl ?_
        refine s_jn hf (fun j32 e32 hf => ?_)
        have k32 : j32  = some r → WW X h 0 0 32 [some (rB (xD X).1 o), some (.int a1), some (.int a2), some (.int x1)] [] := by
          intro  hf
          rw [e32] at hf
          refine s_iinc C dX3_wasMovedFrom_32 (v := (x1 + 1)) rfl rfl (by decide) (nc_i rfl) (lv' := [some (rB (xD X).1 o), some (.int a1), some (.int a2), some (.int (x1 + 1))]) rfl ?_
          refine s_goto (tgt := 2) C dX3_wasMovedFrom_35 (by decide) ?_
          exact ih2 _ hf
        refine s_icmp_ne (tgt := 32) C dX3_wasMovedFrom_17 (by decide) hf (fun hf => ?_) (fun hf => ?_)
        · exact k32 hf
        · refine s_aload_n C dX3_wasMovedFrom_20 rfl ?_
          refine s_getR C fl_X3_27 dX3_wasMovedFrom_21 hf (fun v5 hf => ?_)
          refine s_iload_n C dX3_wasMovedFrom_24 rfl ?_
          refine s_iaload C dX3_wasMovedFrom_25 hf (fun v6 hf => ?_)
          refine s_iload_n C dX3_wasMovedFrom_26 rfl ?_
          refine s_icmp_lt (tgt := 32) C dX3_wasMovedFrom_27 (by decide) hf (fun hf => ?_) (fun hf => ?_)
          · exact k32 hf
          · refine s_iconst C dX3_wasMovedFrom_30 (v := (1 : Int32)) (by decide) ?_
            exact s_zreturn C E dX3_wasMovedFrom_31 hf (Nat.le_of_ble_eq_true rfl) (Nat.le_of_ble_eq_true rfl)
  exact k2 lpN _ hf
/-- HillBoxes$Logs.hasLogFrom(II)Z -/
noncomputable def f_X4_hasLogFrom (o : Option Nat) (a1 : Int32) (a2 : Int32) (h : AH) : Option (Int32 × AH) :=
  lp (fun _ => none) (fun (L2 : Int32 → Option (Int32 × AH)) (x1 : Int32) =>
    fI h [4] o 2 fun v2 =>
    if v2 ≤ x1 then
      rz (0 : Int32) h
    else
      fR h [4] o 4 fun v3 =>
      aI h 20 v3 x1 fun v4 =>
      jn (
        L2 (x1 + 1)) fun j32 =>
      if v4 = a1 then
        fR h [4] o 5 fun v5 =>
        aI h 20 v5 x1 fun v6 =>
        if v6 < a2 then
          j32
        else
          rz (1 : Int32) h
      else
        j32) lpN (0 : Int32)
set_option maxRecDepth 100000 in
set_option maxHeartbeats 4000000 in
theorem c_X4_hasLogFrom (l : Launch) (D : DT) (o : Option Nat) (a1 : Int32) (a2 : Int32) (h : AH) (r : Int32 × AH) (hf : f_X4_hasLogFrom o a1 a2 h = some r) : CM l D yX4_hasLogFrom cX4_hasLogFrom 4 (some .boolean) 0 0 0 0 [.inr (.inr o), .inl a1, .inl a2] h (some (.int r.1)) r.2 := by
  refine CM.of (by decide) (Nat.le_of_ble_eq_true rfl) (fun X hl C hD hX hnm E => ?_)
  subst hl
  subst hD
  have C : CX X RX4 cX4_hasLogFrom 4 := C
  show WW X h 0 0 0 [some (rB (xD X).1 o), some (.int a1), some (.int a2), none] []
  unfold f_X4_hasLogFrom at hf
  refine s_iconst C dX4_hasLogFrom_0 (v := (0 : Int32)) (by decide) ?_
  refine s_istore_n C dX4_hasLogFrom_1 (by decide) (nc_i rfl) (lv' := [some (rB (xD X).1 o), some (.int a1), some (.int a2), some (.int (0 : Int32))]) rfl ?_
  refine s_lp1 hf (fun G2 z2 q2 hf => ?_)
  have k2 : ∀ (n : Nat) (x1 : Int32), G2 n x1 = some r → WW X h 0 0 2 [some (rB (xD X).1 o), some (.int a1), some (.int a2), some (.int x1)] [] := by
    intro n
    induction n with
    | zero =>
      intro x1 hf
      rw [z2] at hf
      cases hf
    | succ n ih2 =>
      intro x1 hf
      have hf := (q2 n x1).symm.trans hf
      refine s_iload_n C dX4_hasLogFrom_2 rfl ?_
      refine s_aload_n C dX4_hasLogFrom_3 rfl ?_
      refine s_getI C fl_X4_39 dX4_hasLogFrom_4 hf (fun v2 hf => ?_)
      refine s_icmp_ge (tgt := 38) C dX4_hasLogFrom_7 (by decide) hf (fun hf => ?_) (fun hf => ?_)
      · refine s_iconst C dX4_hasLogFrom_38 (v := (0 : Int32)) (by decide) ?_
        exact s_zreturn C E dX4_hasLogFrom_39 hf (Nat.le_of_ble_eq_true rfl) (Nat.le_of_ble_eq_true rfl)
      · refine s_aload_n C dX4_hasLogFrom_10 rfl ?_
        refine s_getR C fl_X4_22 dX4_hasLogFrom_11 hf (fun v3 hf => ?_)
        refine s_iload_n C dX4_hasLogFrom_14 rfl ?_
        refine s_iaload C dX4_hasLogFrom_15 hf (fun v4 hf => ?_)
        refine s_iload_n C dX4_hasLogFrom_16 rfl ?_
        refine s_jn hf (fun j32 e32 hf => ?_)
        have k32 : j32  = some r → WW X h 0 0 32 [some (rB (xD X).1 o), some (.int a1), some (.int a2), some (.int x1)] [] := by
          intro  hf
          rw [e32] at hf
          refine s_iinc C dX4_hasLogFrom_32 (v := (x1 + 1)) rfl rfl (by decide) (nc_i rfl) (lv' := [some (rB (xD X).1 o), some (.int a1), some (.int a2), some (.int (x1 + 1))]) rfl ?_
          refine s_goto (tgt := 2) C dX4_hasLogFrom_35 (by decide) ?_
          exact ih2 _ hf
        refine s_icmp_ne (tgt := 32) C dX4_hasLogFrom_17 (by decide) hf (fun hf => ?_) (fun hf => ?_)
        · exact k32 hf
        · refine s_aload_n C dX4_hasLogFrom_20 rfl ?_
          refine s_getR C fl_X4_25 dX4_hasLogFrom_21 hf (fun v5 hf => ?_)
          refine s_iload_n C dX4_hasLogFrom_24 rfl ?_
          refine s_iaload C dX4_hasLogFrom_25 hf (fun v6 hf => ?_)
          refine s_iload_n C dX4_hasLogFrom_26 rfl ?_
          refine s_icmp_lt (tgt := 32) C dX4_hasLogFrom_27 (by decide) hf (fun hf => ?_) (fun hf => ?_)
          · exact k32 hf
          · refine s_iconst C dX4_hasLogFrom_30 (v := (1 : Int32)) (by decide) ?_
            exact s_zreturn C E dX4_hasLogFrom_31 hf (Nat.le_of_ble_eq_true rfl) (Nat.le_of_ble_eq_true rfl)
  exact k2 lpN _ hf
/-- HillBoxes.move(III)I -/
noncomputable def f_X11_move (o : Option Nat) (a1 : Int32) (a2 : Int32) (a3 : Int32) (h : AH) : Option (Int32 × AH) :=
  fR h [11] o 0 fun v1 =>
  rO h [3] v1 <| cl (f_X3_boxAt v1 a1 h) fun v3 h2 =>
  jn (fun (h4 : AH) =>
    some ((-1 : Int32), h4)) fun j41 =>
  if v3 = none then
    j41 h2
  else
    fI h2 [1] v3 1 fun v5 =>
    if v5 = (4 : Int32) then
      cl (f_X11_isCell a2 h2) fun v7 h6 =>
      if v7 = 0 then
        j41 h6
      else
        if a3 < 0 then
          j41 h6
        else
          if a3 < (24 : Int32) then
            fR h6 [11] o 0 fun v8 =>
            fI h6 [3] v8 0 fun v9 =>
            rO h6 [1] v3 <| cl (f_X1_isDown v3 h6) fun v11 h10 =>
            jn (fun (h12 : AH) =>
              some ((-5 : Int32), h12)) fun j91 =>
            if v11 = 0 then
              fR h10 [11] o 0 fun v13 =>
              rO h10 [3] v13 <| cl (f_X3_wasMovedFrom v13 a1 (((24 : Int32) * v9) + a3) h10) fun v15 h14 =>
              if v15 = 0 then
                fR h14 [11] o 2 fun v16 =>
                rO h14 [4] v16 <| cl (f_X4_hasLogFrom v16 a1 (((24 : Int32) * v9) + a3) h14) fun v18 h17 =>
                if v18 = 0 then
                  fR h17 [11] o 0 fun v19 =>
                  fI h17 [3] v19 9 fun v20 =>
                  if v20 < (200 : Int32) then
                    fR h17 [11] o 0 fun v21 =>
                    rO h17 [3] v21 <| cl (f_X3_moveTo v21 v3 a2 (((24 : Int32) * v9) + a3) h17) fun _ h22 =>
                    some ((1 : Int32), h22)
                  else
                    some ((-3 : Int32), h17)
                else
                  j91 h17
              else
                j91 h14
            else
              j91 h10
          else
            j41 h6
    else
      j41 h2
set_option maxRecDepth 100000 in
set_option maxHeartbeats 4000000 in
theorem c_X11_move (l : Launch) (D : DT) (o : Option Nat) (a1 : Int32) (a2 : Int32) (a3 : Int32) (h : AH) (r : Int32 × AH) (hf : f_X11_move o a1 a2 a3 h = some r) : CM l D yX11_move cX11_move 6 (some .int) 1 23 0 0 [.inr (.inr o), .inl a1, .inl a2, .inl a3] h (some (.int r.1)) r.2 := by
  refine CM.of (by decide) (Nat.le_of_ble_eq_true rfl) (fun X hl C hD hX hnm E => ?_)
  subst hl
  subst hD
  have C : CX X RX11 cX11_move 6 := C
  show WW X h 0 0 0 [some (rB (xD X).1 o), some (.int a1), some (.int a2), some (.int a3), none, none] []
  unfold f_X11_move at hf
  refine s_aload_n C dX11_move_0 rfl ?_
  refine s_getR C fl_X11_10 dX11_move_1 hf (fun v1 hf => ?_)
  refine s_iload_n C dX11_move_4 rfl ?_
  refine s_callV (rvf := fun x => some (rB (xD X).1 x)) (st := []) (fr := 0) (lo := 0) (mc := 0) (ms := 0) C [3] wc_X3_boxAt wml_X11_130 wim_X3_boxAt wsl_3_X3_boxAt dX11_move_5 (As := [.inl a1]) rfl hf (fun x h' hF => c_X3_boxAt _ _ _ _ _ (x, h') hF) rfl (Nat.le_of_ble_eq_true rfl) (room_ok hX (Nat.le_of_ble_eq_true rfl) (Nat.le_of_ble_eq_true rfl)) (cell_ok hX (Nat.le_of_ble_eq_true rfl) (Nat.le_of_ble_eq_true rfl)) (fun v3 h2 hf => ?_)
  refine s_astore C dX11_move_8 (by decide) (nc_i rfl) (lv' := [some (rB (xD X).1 o), some (.int a1), some (.int a2), some (.int a3), some (rB (xD X).1 v3), none]) rfl ?_
  refine s_aload C dX11_move_10 rfl ?_
  refine s_jn hf (fun j41 e41 hf => ?_)
  have k41 : ∀ (h4 : AH), j41 h4 = some r → WW X h4 0 0 41 [none, none, none, none, none, none] [] := by
    intro h4 hf
    rw [e41] at hf
    refine s_iconst C dX11_move_41 (v := (-1 : Int32)) (by decide) ?_
    exact s_ireturn C E dX11_move_42 hf (Nat.le_of_ble_eq_true rfl) (Nat.le_of_ble_eq_true rfl)
  refine s_ifnull (tgt := 41) C dX11_move_12 (by decide) hf (fun hf => ?_) (fun hf => ?_)
  · refine s_weak (lv' := [none, none, none, none, none, none]) trivial ?_
    exact k41 _ hf
  · refine s_aload C dX11_move_15 rfl ?_
    refine s_getI C fl_X11_134 dX11_move_17 hf (fun v5 hf => ?_)
    refine s_iconst C dX11_move_20 (v := (4 : Int32)) (by decide) ?_
    refine s_icmp_ne (tgt := 41) C dX11_move_21 (by decide) hf (fun hf => ?_) (fun hf => ?_)
    · refine s_weak (lv' := [none, none, none, none, none, none]) trivial ?_
      exact k41 _ hf
    · refine s_iload_n C dX11_move_24 rfl ?_
      refine s_callS (rvf := fun x => some (.int x)) (st := []) (fr := 0) (lo := 0) (mc := 0) (ms := 0) C wc_X11_isCell wml_X11_56 wst_X11_isCell dX11_move_25 (As := [.inl a2]) rfl hf (fun x h' hF => c_X11_isCell _ _ _ _ (x, h') hF) rfl (Nat.le_of_ble_eq_true rfl) (room_ok hX (Nat.le_of_ble_eq_true rfl) (Nat.le_of_ble_eq_true rfl)) (cell_ok hX (Nat.le_of_ble_eq_true rfl) (Nat.le_of_ble_eq_true rfl)) (fun v7 h6 hf => ?_)
      refine s_if_eq (tgt := 41) C dX11_move_28 (by decide) hf (fun hf => ?_) (fun hf => ?_)
      · refine s_weak (lv' := [none, none, none, none, none, none]) trivial ?_
        exact k41 _ hf
      · refine s_iload_n C dX11_move_31 rfl ?_
        refine s_if_lt (tgt := 41) C dX11_move_32 (by decide) hf (fun hf => ?_) (fun hf => ?_)
        · refine s_weak (lv' := [none, none, none, none, none, none]) trivial ?_
          exact k41 _ hf
        · refine s_iload_n C dX11_move_35 rfl ?_
          refine s_bipush C dX11_move_36 (v := (24 : Int32)) (by decide) ?_
          refine s_icmp_lt (tgt := 43) C dX11_move_38 (by decide) hf (fun hf => ?_) (fun hf => ?_)
          · refine s_bipush C dX11_move_43 (v := (24 : Int32)) (by decide) ?_
            refine s_aload_n C dX11_move_45 rfl ?_
            refine s_getR C fl_X11_10 dX11_move_46 hf (fun v8 hf => ?_)
            refine s_getI C fl_X11_52 dX11_move_49 hf (fun v9 hf => ?_)
            refine s_imul C dX11_move_52 ?_
            refine s_iload_n C dX11_move_53 rfl ?_
            refine s_iadd C dX11_move_54 ?_
            refine s_istore C dX11_move_55 (by decide) (nc_r rfl) (lv' := [some (rB (xD X).1 o), some (.int a1), some (.int a2), some (.int a3), some (rB (xD X).1 v3), some (.int (((24 : Int32) * v9) + a3))]) rfl ?_
            refine s_aload C dX11_move_57 rfl ?_
            refine s_callV (rvf := fun x => some (.int x)) (st := []) (fr := 0) (lo := 0) (mc := 0) (ms := 0) C [1] wc_X1_isDown wml_X11_137 wim_X1_isDown wsl_1_X1_isDown dX11_move_59 (As := []) rfl hf (fun x h' hF => c_X1_isDown _ _ _ _ (x, h') hF) rfl (Nat.le_of_ble_eq_true rfl) (room_ok hX (Nat.le_of_ble_eq_true rfl) (Nat.le_of_ble_eq_true rfl)) (cell_ok hX (Nat.le_of_ble_eq_true rfl) (Nat.le_of_ble_eq_true rfl)) (fun v11 h10 hf => ?_)
            refine s_jn hf (fun j91 e91 hf => ?_)
            have k91 : ∀ (h12 : AH), j91 h12 = some r → WW X h12 0 0 91 [none, none, none, none, none, none] [] := by
              intro h12 hf
              rw [e91] at hf
              refine s_bipush C dX11_move_91 (v := (-5 : Int32)) (by decide) ?_
              exact s_ireturn C E dX11_move_93 hf (Nat.le_of_ble_eq_true rfl) (Nat.le_of_ble_eq_true rfl)
            refine s_if_ne (tgt := 91) C dX11_move_62 (by decide) hf (fun hf => ?_) (fun hf => ?_)
            · refine s_weak (lv' := [none, none, none, none, none, none]) trivial ?_
              exact k91 _ hf
            · refine s_aload_n C dX11_move_65 rfl ?_
              refine s_getR C fl_X11_10 dX11_move_66 hf (fun v13 hf => ?_)
              refine s_iload_n C dX11_move_69 rfl ?_
              refine s_iload C dX11_move_70 rfl ?_
              refine s_callV (rvf := fun x => some (.int x)) (st := []) (fr := 0) (lo := 0) (mc := 0) (ms := 0) C [3] wc_X3_wasMovedFrom wml_X11_140 wim_X3_wasMovedFrom wsl_3_X3_wasMovedFrom dX11_move_72 (As := [.inl a1, .inl (((24 : Int32) * v9) + a3)]) rfl hf (fun x h' hF => c_X3_wasMovedFrom _ _ _ _ _ _ (x, h') hF) rfl (Nat.le_of_ble_eq_true rfl) (room_ok hX (Nat.le_of_ble_eq_true rfl) (Nat.le_of_ble_eq_true rfl)) (cell_ok hX (Nat.le_of_ble_eq_true rfl) (Nat.le_of_ble_eq_true rfl)) (fun v15 h14 hf => ?_)
              refine s_if_ne (tgt := 91) C dX11_move_75 (by decide) hf (fun hf => ?_) (fun hf => ?_)
              · refine s_weak (lv' := [none, none, none, none, none, none]) trivial ?_
                exact k91 _ hf
              · refine s_aload_n C dX11_move_78 rfl ?_
                refine s_getR C fl_X11_30 dX11_move_79 hf (fun v16 hf => ?_)
                refine s_iload_n C dX11_move_82 rfl ?_
                refine s_iload C dX11_move_83 rfl ?_
                refine s_callV (rvf := fun x => some (.int x)) (st := []) (fr := 0) (lo := 0) (mc := 0) (ms := 0) C [4] wc_X4_hasLogFrom wml_X11_143 wim_X4_hasLogFrom wsl_4_X4_hasLogFrom dX11_move_85 (As := [.inl a1, .inl (((24 : Int32) * v9) + a3)]) rfl hf (fun x h' hF => c_X4_hasLogFrom _ _ _ _ _ _ (x, h') hF) rfl (Nat.le_of_ble_eq_true rfl) (room_ok hX (Nat.le_of_ble_eq_true rfl) (Nat.le_of_ble_eq_true rfl)) (cell_ok hX (Nat.le_of_ble_eq_true rfl) (Nat.le_of_ble_eq_true rfl)) (fun v18 h17 hf => ?_)
                refine s_if_eq (tgt := 94) C dX11_move_88 (by decide) hf (fun hf => ?_) (fun hf => ?_)
                · refine s_aload_n C dX11_move_94 rfl ?_
                  refine s_getR C fl_X11_10 dX11_move_95 hf (fun v19 hf => ?_)
                  refine s_getI C fl_X11_146 dX11_move_98 hf (fun v20 hf => ?_)
                  refine s_sipush C dX11_move_101 (v := (200 : Int32)) (by decide) ?_
                  refine s_icmp_lt (tgt := 110) C dX11_move_104 (by decide) hf (fun hf => ?_) (fun hf => ?_)
                  · refine s_aload_n C dX11_move_110 rfl ?_
                    refine s_getR C fl_X11_10 dX11_move_111 hf (fun v21 hf => ?_)
                    refine s_aload C dX11_move_114 rfl ?_
                    refine s_iload_n C dX11_move_116 rfl ?_
                    refine s_iload C dX11_move_117 rfl ?_
                    refine s_callV (rvf := fun _ => none) (st := []) (fr := 0) (lo := 0) (mc := 0) (ms := 0) C [3] wc_X3_moveTo wml_X11_149 wim_X3_moveTo wsl_3_X3_moveTo dX11_move_119 (As := [.inr (.inr v3), .inl a2, .inl (((24 : Int32) * v9) + a3)]) rfl hf (fun x h' hF => c_X3_moveTo _ _ _ _ _ _ _ (x, h') hF) rfl (Nat.le_of_ble_eq_true rfl) (room_ok hX (Nat.le_of_ble_eq_true rfl) (Nat.le_of_ble_eq_true rfl)) (cell_ok hX (Nat.le_of_ble_eq_true rfl) (Nat.le_of_ble_eq_true rfl)) (fun _ h22 hf => ?_)
                    refine s_iconst C dX11_move_122 (v := (1 : Int32)) (by decide) ?_
                    exact s_ireturn C E dX11_move_123 hf (Nat.le_of_ble_eq_true rfl) (Nat.le_of_ble_eq_true rfl)
                  · refine s_bipush C dX11_move_107 (v := (-3 : Int32)) (by decide) ?_
                    exact s_ireturn C E dX11_move_109 hf (Nat.le_of_ble_eq_true rfl) (Nat.le_of_ble_eq_true rfl)
                · refine s_weak (lv' := [none, none, none, none, none, none]) trivial ?_
                  exact k91 _ hf
          · refine s_weak (lv' := [none, none, none, none, none, none]) trivial ?_
            exact k41 _ hf
/-- HillBoxes$Rules.shows(LHillBoxes$Finder;LHillBoxes$Box;)Z -/
noncomputable def f_X6_shows (o : Option Nat) (a1 : Option Nat) (a2 : Option Nat) (h : AH) : Option (Int32 × AH) :=
  fR h [6] o 3 fun v1 =>
  fI h [3] v1 0 fun v2 =>
  rO h [6] o <| cl (f_X6_askForBox o v2 a1 a2 (0 : Int32) h) fun _ h3 =>
  fR h3 [6] o 3 fun v4 =>
  fI h3 [3] v4 0 fun v5 =>
  rO h3 [6] o <| cl (f_X6_answer o (4 : Int32) v5 h3) fun v7 h6 =>
  jn (fun (x8 : Int32) =>
    rz x8 h6) fun j34 =>
  if v7 = 0 then
    j34 (0 : Int32)
  else
    j34 (1 : Int32)
set_option maxRecDepth 100000 in
set_option maxHeartbeats 4000000 in
theorem c_X6_shows (l : Launch) (D : DT) (o : Option Nat) (a1 : Option Nat) (a2 : Option Nat) (h : AH) (r : Int32 × AH) (hf : f_X6_shows o a1 a2 h = some r) : CM l D yX6_shows cX6_shows 3 (some .boolean) 5 121 0 0 [.inr (.inr o), .inr (.inr a1), .inr (.inr a2)] h (some (.int r.1)) r.2 := by
  refine CM.of (by decide) (Nat.le_of_ble_eq_true rfl) (fun X hl C hD hX hnm E => ?_)
  subst hl
  subst hD
  have C : CX X RX6 cX6_shows 3 := C
  show WW X h 0 0 0 [some (rB (xD X).1 o), some (rB (xD X).1 a1), some (rB (xD X).1 a2)] []
  unfold f_X6_shows at hf
  refine s_aload_n C dX6_shows_0 rfl ?_
  refine s_aload_n C dX6_shows_1 rfl ?_
  refine s_getR C fl_X6_41 dX6_shows_2 hf (fun v1 hf => ?_)
  refine s_getI C fl_X6_55 dX6_shows_5 hf (fun v2 hf => ?_)
  refine s_aload_n C dX6_shows_8 rfl ?_
  refine s_aload_n C dX6_shows_9 rfl ?_
  refine s_iconst C dX6_shows_10 (v := (0 : Int32)) (by decide) ?_
  refine s_callV (rvf := fun _ => none) (st := []) (fr := 0) (lo := 0) (mc := 0) (ms := 0) C [6] wc_X6_askForBox wml_X6_119 wim_X6_askForBox wsl_6_X6_askForBox dX6_shows_11 (As := [.inl v2, .inr (.inr a1), .inr (.inr a2), .inl (0 : Int32)]) rfl hf (fun x h' hF => c_X6_askForBox _ _ _ _ _ _ _ _ (x, h') hF) rfl (Nat.le_of_ble_eq_true rfl) (room_ok hX (Nat.le_of_ble_eq_true rfl) (Nat.le_of_ble_eq_true rfl)) (cell_ok hX (Nat.le_of_ble_eq_true rfl) (Nat.le_of_ble_eq_true rfl)) (fun _ h3 hf => ?_)
  refine s_aload_n C dX6_shows_14 rfl ?_
  refine s_iconst C dX6_shows_15 (v := (4 : Int32)) (by decide) ?_
  refine s_aload_n C dX6_shows_16 rfl ?_
  refine s_getR C fl_X6_41 dX6_shows_17 hf (fun v4 hf => ?_)
  refine s_getI C fl_X6_55 dX6_shows_20 hf (fun v5 hf => ?_)
  refine s_callV (rvf := fun x => some (.int x)) (st := []) (fr := 4) (lo := 97) (mc := 0) (ms := 0) C [6] wc_X6_answer wml_X6_116 wim_X6_answer wsl_6_X6_answer dX6_shows_23 (As := [.inl (4 : Int32), .inl v5]) rfl hf (fun x h' hF => c_X6_answer _ _ _ _ _ _ (x, h') hF) rfl (Nat.le_of_ble_eq_true rfl) (room_ok hX (Nat.le_of_ble_eq_true rfl) (Nat.le_of_ble_eq_true rfl)) (cell_ok hX (Nat.le_of_ble_eq_true rfl) (Nat.le_of_ble_eq_true rfl)) (fun v7 h6 hf => ?_)
  refine s_jn hf (fun j34 e34 hf => ?_)
  have k34 : ∀ (x8 : Int32), j34 x8 = some r → WW X h6 0 0 34 [none, none, none] [.int x8] := by
    intro x8 hf
    rw [e34] at hf
    exact s_zreturn C E dX6_shows_34 hf (Nat.le_of_ble_eq_true rfl) (Nat.le_of_ble_eq_true rfl)
  refine s_if_eq (tgt := 33) C dX6_shows_26 (by decide) hf (fun hf => ?_) (fun hf => ?_)
  · refine s_iconst C dX6_shows_33 (v := (0 : Int32)) (by decide) ?_
    refine s_weak (lv' := [none, none, none]) trivial ?_
    exact k34 _ hf
  · refine s_iconst C dX6_shows_29 (v := (1 : Int32)) (by decide) ?_
    refine s_goto (tgt := 34) C dX6_shows_30 (by decide) ?_
    refine s_weak (lv' := [none, none, none]) trivial ?_
    exact k34 _ hf
/-- HillBoxes.nearest(II)I -/
noncomputable def f_X11_nearest (o : Option Nat) (a1 : Int32) (a2 : Int32) (h : AH) : Option (Int32 × AH) :=
  fR h [11] o 0 fun v1 =>
  rO h [3] v1 <| cl (f_X3_finderAt v1 a1 h) fun v3 h2 =>
  jn (fun (h4 : AH) =>
    some ((-1 : Int32), h4)) fun j20 =>
  if v3 = none then
    j20 h2
  else
    cl (f_X11_isCell a2 h2) fun v6 h5 =>
    if v6 = 0 then
      j20 h5
    else
      lp (fun _ _ _ => none) (fun (L29 : Int32 → Int32 → AH → Option (Int32 × AH)) (x7 : Int32) (x8 : Int32) (h9 : AH) =>
        fR h9 [11] o 0 fun v10 =>
        fI h9 [3] v10 3 fun v11 =>
        if v11 ≤ x8 then
          some (x7, h9)
        else
          fR h9 [11] o 0 fun v12 =>
          rO h9 [3] v12 <| cl (f_X3_boxAt v12 x8 h9) fun v14 h13 =>
          jn (fun (x15 : Int32) (h16 : AH) =>
            L29 x15 (x8 + 1) h16) fun j110 =>
          if v14 = none then
            j110 x7 h13
          else
            rO h13 [1] v14 <| cl (f_X1_isDown v14 h13) fun v18 h17 =>
            if v18 = 0 then
              fR h17 [11] o 1 fun v19 =>
              rO h17 [6] v19 <| cl (f_X6_shows v19 v3 v14 h17) fun v21 h20 =>
              if v21 = 0 then
                j110 x7 h20
              else
                fI h20 [1] v14 9 fun v22 =>
                cl (f_X11_far a2 v22 h20) fun v24 h23 =>
                jn (fun (x25 : Int32) =>
                  j110 x25 h23) fun j108 =>
                jn (
                  j108 v24) fun j101 =>
                if x7 < 0 then
                  j101
                else
                  if x7 ≤ v24 then
                    j108 x7
                  else
                    j101
            else
              j110 x7 h17) lpN (-2 : Int32) (0 : Int32) h5
set_option maxRecDepth 100000 in
set_option maxHeartbeats 4000000 in
theorem c_X11_nearest (l : Launch) (D : DT) (o : Option Nat) (a1 : Int32) (a2 : Int32) (h : AH) (r : Int32 × AH) (hf : f_X11_nearest o a1 a2 h = some r) : CM l D yX11_nearest cX11_nearest 8 (some .int) 6 143 0 0 [.inr (.inr o), .inl a1, .inl a2] h (some (.int r.1)) r.2 := by
  refine CM.of (by decide) (Nat.le_of_ble_eq_true rfl) (fun X hl C hD hX hnm E => ?_)
  subst hl
  subst hD
  have C : CX X RX11 cX11_nearest 8 := C
  show WW X h 0 0 0 [some (rB (xD X).1 o), some (.int a1), some (.int a2), none, none, none, none, none] []
  unfold f_X11_nearest at hf
  refine s_aload_n C dX11_nearest_0 rfl ?_
  refine s_getR C fl_X11_10 dX11_nearest_1 hf (fun v1 hf => ?_)
  refine s_iload_n C dX11_nearest_4 rfl ?_
  refine s_callV (rvf := fun x => some (rB (xD X).1 x)) (st := []) (fr := 0) (lo := 0) (mc := 0) (ms := 0) C [3] wc_X3_finderAt wml_X11_90 wim_X3_finderAt wsl_3_X3_finderAt dX11_nearest_5 (As := [.inl a1]) rfl hf (fun x h' hF => c_X3_finderAt _ _ _ _ _ (x, h') hF) rfl (Nat.le_of_ble_eq_true rfl) (room_ok hX (Nat.le_of_ble_eq_true rfl) (Nat.le_of_ble_eq_true rfl)) (cell_ok hX (Nat.le_of_ble_eq_true rfl) (Nat.le_of_ble_eq_true rfl)) (fun v3 h2 hf => ?_)
  refine s_astore_n C dX11_nearest_8 (by decide) (nc_i rfl) (lv' := [some (rB (xD X).1 o), some (.int a1), some (.int a2), some (rB (xD X).1 v3), none, none, none, none]) rfl ?_
  refine s_aload_n C dX11_nearest_9 rfl ?_
  refine s_jn hf (fun j20 e20 hf => ?_)
  have k20 : ∀ (h4 : AH), j20 h4 = some r → WW X h4 0 0 20 [none, none, none, none, none, none, none, none] [] := by
    intro h4 hf
    rw [e20] at hf
    refine s_iconst C dX11_nearest_20 (v := (-1 : Int32)) (by decide) ?_
    exact s_ireturn C E dX11_nearest_21 hf (Nat.le_of_ble_eq_true rfl) (Nat.le_of_ble_eq_true rfl)
  refine s_ifnull (tgt := 20) C dX11_nearest_10 (by decide) hf (fun hf => ?_) (fun hf => ?_)
  · refine s_weak (lv' := [none, none, none, none, none, none, none, none]) trivial ?_
    exact k20 _ hf
  · refine s_iload_n C dX11_nearest_13 rfl ?_
    refine s_callS (rvf := fun x => some (.int x)) (st := []) (fr := 0) (lo := 0) (mc := 0) (ms := 0) C wc_X11_isCell wml_X11_56 wst_X11_isCell dX11_nearest_14 (As := [.inl a2]) rfl hf (fun x h' hF => c_X11_isCell _ _ _ _ (x, h') hF) rfl (Nat.le_of_ble_eq_true rfl) (room_ok hX (Nat.le_of_ble_eq_true rfl) (Nat.le_of_ble_eq_true rfl)) (cell_ok hX (Nat.le_of_ble_eq_true rfl) (Nat.le_of_ble_eq_true rfl)) (fun v6 h5 hf => ?_)
    refine s_if_ne (tgt := 22) C dX11_nearest_17 (by decide) hf (fun hf => ?_) (fun hf => ?_)
    · refine s_bipush C dX11_nearest_22 (v := (-2 : Int32)) (by decide) ?_
      refine s_istore C dX11_nearest_24 (by decide) (nc_r rfl) (lv' := [some (rB (xD X).1 o), some (.int a1), some (.int a2), some (rB (xD X).1 v3), some (.int (-2 : Int32)), none, none, none]) rfl ?_
      refine s_iconst C dX11_nearest_26 (v := (0 : Int32)) (by decide) ?_
      refine s_istore C dX11_nearest_27 (by decide) (nc_i rfl) (lv' := [some (rB (xD X).1 o), some (.int a1), some (.int a2), some (rB (xD X).1 v3), some (.int (-2 : Int32)), some (.int (0 : Int32)), none, none]) rfl ?_
      refine s_lp3 hf (fun G29 z29 q29 hf => ?_)
      have k29 : ∀ (n : Nat) (x7 : Int32) (x8 : Int32) (h9 : AH), G29 n x7 x8 h9 = some r → WW X h9 0 0 29 [some (rB (xD X).1 o), none, some (.int a2), some (rB (xD X).1 v3), some (.int x7), some (.int x8), none, none] [] := by
        intro n
        induction n with
        | zero =>
          intro x7 x8 h9 hf
          rw [z29] at hf
          cases hf
        | succ n ih29 =>
          intro x7 x8 h9 hf
          have hf := (q29 n x7 x8 h9).symm.trans hf
          refine s_iload C dX11_nearest_29 rfl ?_
          refine s_aload_n C dX11_nearest_31 rfl ?_
          refine s_getR C fl_X11_10 dX11_nearest_32 hf (fun v10 hf => ?_)
          refine s_getI C fl_X11_70 dX11_nearest_35 hf (fun v11 hf => ?_)
          refine s_icmp_ge (tgt := 116) C dX11_nearest_38 (by decide) hf (fun hf => ?_) (fun hf => ?_)
          · refine s_iload C dX11_nearest_116 rfl ?_
            exact s_ireturn C E dX11_nearest_118 hf (Nat.le_of_ble_eq_true rfl) (Nat.le_of_ble_eq_true rfl)
          · refine s_aload_n C dX11_nearest_41 rfl ?_
            refine s_getR C fl_X11_10 dX11_nearest_42 hf (fun v12 hf => ?_)
            refine s_iload C dX11_nearest_45 rfl ?_
            refine s_callV (rvf := fun x => some (rB (xD X).1 x)) (st := []) (fr := 0) (lo := 0) (mc := 0) (ms := 0) C [3] wc_X3_boxAt wml_X11_130 wim_X3_boxAt wsl_3_X3_boxAt dX11_nearest_47 (As := [.inl x8]) rfl hf (fun x h' hF => c_X3_boxAt _ _ _ _ _ (x, h') hF) rfl (Nat.le_of_ble_eq_true rfl) (room_ok hX (Nat.le_of_ble_eq_true rfl) (Nat.le_of_ble_eq_true rfl)) (cell_ok hX (Nat.le_of_ble_eq_true rfl) (Nat.le_of_ble_eq_true rfl)) (fun v14 h13 hf => ?_)
            refine s_astore C dX11_nearest_50 (by decide) (nc_i rfl) (lv' := [some (rB (xD X).1 o), none, some (.int a2), some (rB (xD X).1 v3), some (.int x7), some (.int x8), some (rB (xD X).1 v14), none]) rfl ?_
            refine s_aload C dX11_nearest_52 rfl ?_
            refine s_jn hf (fun j110 e110 hf => ?_)
            have k110 : ∀ (x15 : Int32) (h16 : AH), j110 x15 h16 = some r → WW X h16 0 0 110 [some (rB (xD X).1 o), none, some (.int a2), some (rB (xD X).1 v3), some (.int x15), some (.int x8), none, none] [] := by
              intro x15 h16 hf
              rw [e110] at hf
              refine s_iinc C dX11_nearest_110 (v := (x8 + 1)) rfl rfl (by decide) (nc_i rfl) (lv' := [some (rB (xD X).1 o), none, some (.int a2), some (rB (xD X).1 v3), some (.int x15), some (.int (x8 + 1)), none, none]) rfl ?_
              refine s_goto (tgt := 29) C dX11_nearest_113 (by decide) ?_
              exact ih29 _ _ _ hf
            refine s_ifnull (tgt := 110) C dX11_nearest_54 (by decide) hf (fun hf => ?_) (fun hf => ?_)
            · refine s_weak (lv' := [some (rB (xD X).1 o), none, some (.int a2), some (rB (xD X).1 v3), some (.int x7), some (.int x8), none, none]) ⟨rfl, ⟨rfl, ⟨rfl, ⟨rfl, ⟨rfl, trivial⟩⟩⟩⟩⟩ ?_
              exact k110 _ _ hf
            · refine s_aload C dX11_nearest_57 rfl ?_
              refine s_callV (rvf := fun x => some (.int x)) (st := []) (fr := 0) (lo := 0) (mc := 0) (ms := 0) C [1] wc_X1_isDown wml_X11_137 wim_X1_isDown wsl_1_X1_isDown dX11_nearest_59 (As := []) rfl hf (fun x h' hF => c_X1_isDown _ _ _ _ (x, h') hF) rfl (Nat.le_of_ble_eq_true rfl) (room_ok hX (Nat.le_of_ble_eq_true rfl) (Nat.le_of_ble_eq_true rfl)) (cell_ok hX (Nat.le_of_ble_eq_true rfl) (Nat.le_of_ble_eq_true rfl)) (fun v18 h17 hf => ?_)
              refine s_if_ne (tgt := 110) C dX11_nearest_62 (by decide) hf (fun hf => ?_) (fun hf => ?_)
              · refine s_weak (lv' := [some (rB (xD X).1 o), none, some (.int a2), some (rB (xD X).1 v3), some (.int x7), some (.int x8), none, none]) ⟨rfl, ⟨rfl, ⟨rfl, ⟨rfl, ⟨rfl, trivial⟩⟩⟩⟩⟩ ?_
                exact k110 _ _ hf
              · refine s_aload_n C dX11_nearest_65 rfl ?_
                refine s_getR C fl_X11_21 dX11_nearest_66 hf (fun v19 hf => ?_)
                refine s_aload_n C dX11_nearest_69 rfl ?_
                refine s_aload C dX11_nearest_70 rfl ?_
                refine s_callV (rvf := fun x => some (.int x)) (st := []) (fr := 5) (lo := 121) (mc := 0) (ms := 0) C [6] wc_X6_shows wml_X11_224 wim_X6_shows wsl_6_X6_shows dX11_nearest_72 (As := [.inr (.inr v3), .inr (.inr v14)]) rfl hf (fun x h' hF => c_X6_shows _ _ _ _ _ _ (x, h') hF) rfl (Nat.le_of_ble_eq_true rfl) (room_ok hX (Nat.le_of_ble_eq_true rfl) (Nat.le_of_ble_eq_true rfl)) (cell_ok hX (Nat.le_of_ble_eq_true rfl) (Nat.le_of_ble_eq_true rfl)) (fun v21 h20 hf => ?_)
                refine s_if_eq (tgt := 110) C dX11_nearest_75 (by decide) hf (fun hf => ?_) (fun hf => ?_)
                · refine s_weak (lv' := [some (rB (xD X).1 o), none, some (.int a2), some (rB (xD X).1 v3), some (.int x7), some (.int x8), none, none]) ⟨rfl, ⟨rfl, ⟨rfl, ⟨rfl, ⟨rfl, trivial⟩⟩⟩⟩⟩ ?_
                  exact k110 _ _ hf
                · refine s_iload_n C dX11_nearest_78 rfl ?_
                  refine s_aload C dX11_nearest_79 rfl ?_
                  refine s_getI C fl_X11_228 dX11_nearest_81 hf (fun v22 hf => ?_)
                  refine s_callS (rvf := fun x => some (.int x)) (st := []) (fr := 1) (lo := 21) (mc := 0) (ms := 0) C wc_X11_far wml_X11_231 wst_X11_far dX11_nearest_84 (As := [.inl a2, .inl v22]) rfl hf (fun x h' hF => c_X11_far _ _ _ _ _ (x, h') hF) rfl (Nat.le_of_ble_eq_true rfl) (room_ok hX (Nat.le_of_ble_eq_true rfl) (Nat.le_of_ble_eq_true rfl)) (cell_ok hX (Nat.le_of_ble_eq_true rfl) (Nat.le_of_ble_eq_true rfl)) (fun v24 h23 hf => ?_)
                  refine s_istore C dX11_nearest_87 (by decide) (nc_r rfl) (lv' := [some (rB (xD X).1 o), none, some (.int a2), some (rB (xD X).1 v3), some (.int x7), some (.int x8), some (rB (xD X).1 v14), some (.int v24)]) rfl ?_
                  refine s_iload C dX11_nearest_89 rfl ?_
                  refine s_jn hf (fun j108 e108 hf => ?_)
                  have k108 : ∀ (x25 : Int32), j108 x25 = some r → WW X h23 0 0 108 [some (rB (xD X).1 o), none, some (.int a2), some (rB (xD X).1 v3), none, some (.int x8), none, none] [.int x25] := by
                    intro x25 hf
                    rw [e108] at hf
                    refine s_istore C dX11_nearest_108 (by decide) (nc_r rfl) (lv' := [some (rB (xD X).1 o), none, some (.int a2), some (rB (xD X).1 v3), some (.int x25), some (.int x8), none, none]) rfl ?_
                    exact k110 _ _ hf
                  refine s_jn hf (fun j101 e101 hf => ?_)
                  have k101 : j101  = some r → WW X h23 0 0 101 [some (rB (xD X).1 o), none, some (.int a2), some (rB (xD X).1 v3), none, some (.int x8), none, some (.int v24)] [] := by
                    intro  hf
                    rw [e101] at hf
                    refine s_iload C dX11_nearest_101 rfl ?_
                    refine s_goto (tgt := 108) C dX11_nearest_103 (by decide) ?_
                    refine s_weak (lv' := [some (rB (xD X).1 o), none, some (.int a2), some (rB (xD X).1 v3), none, some (.int x8), none, none]) ⟨rfl, ⟨rfl, ⟨rfl, ⟨rfl, trivial⟩⟩⟩⟩ ?_
                    exact k108 _ hf
                  refine s_if_lt (tgt := 101) C dX11_nearest_91 (by decide) hf (fun hf => ?_) (fun hf => ?_)
                  · refine s_weak (lv' := [some (rB (xD X).1 o), none, some (.int a2), some (rB (xD X).1 v3), none, some (.int x8), none, some (.int v24)]) ⟨rfl, ⟨rfl, ⟨rfl, ⟨rfl, ⟨rfl, trivial⟩⟩⟩⟩⟩ ?_
                    exact k101 hf
                  · refine s_iload C dX11_nearest_94 rfl ?_
                    refine s_iload C dX11_nearest_96 rfl ?_
                    refine s_icmp_ge (tgt := 106) C dX11_nearest_98 (by decide) hf (fun hf => ?_) (fun hf => ?_)
                    · refine s_iload C dX11_nearest_106 rfl ?_
                      refine s_weak (lv' := [some (rB (xD X).1 o), none, some (.int a2), some (rB (xD X).1 v3), none, some (.int x8), none, none]) ⟨rfl, ⟨rfl, ⟨rfl, ⟨rfl, trivial⟩⟩⟩⟩ ?_
                      exact k108 _ hf
                    · refine s_weak (lv' := [some (rB (xD X).1 o), none, some (.int a2), some (rB (xD X).1 v3), none, some (.int x8), none, some (.int v24)]) ⟨rfl, ⟨rfl, ⟨rfl, ⟨rfl, ⟨rfl, trivial⟩⟩⟩⟩⟩ ?_
                      exact k101 hf
      refine s_weak (lv' := [some (rB (xD X).1 o), none, some (.int a2), some (rB (xD X).1 v3), some (.int (-2 : Int32)), some (.int (0 : Int32)), none, none]) ⟨rfl, ⟨rfl, ⟨rfl, ⟨rfl, ⟨rfl, trivial⟩⟩⟩⟩⟩ ?_
      exact k29 lpN _ _ _ hf
    · refine s_weak (lv' := [none, none, none, none, none, none, none, none]) trivial ?_
      exact k20 _ hf
/-- HillBoxes.ways(II)J -/
noncomputable def f_X11_ways (a0 : Int32) (a1 : Int32) (h : AH) : Option (Int64 × AH) :=
  jn (
    some ((0 : Int64), h)) fun j9 =>
  if a1 < 0 then
    j9
  else
    if a1 ≤ a0 then
      lp (fun _ _ => none) (fun (L16 : Int64 → Int32 → Option (Int64 × AH)) (x1 : Int64) (x2 : Int32) =>
        if a1 < x2 then
          some (x1, h)
        else
          nzL x2.toInt64 <|
          L16 ((x1 * (((a0 - a1) + x2).toInt64)) / x2.toInt64) (x2 + 1)) lpN (1 : Int64) (1 : Int32)
    else
      j9
set_option maxRecDepth 100000 in
set_option maxHeartbeats 4000000 in
theorem c_X11_ways (l : Launch) (D : DT) (a0 : Int32) (a1 : Int32) (h : AH) (r : Int64 × AH) (hf : f_X11_ways a0 a1 h = some r) : CM l D yX11_ways cX11_ways 5 (some .long) 0 0 0 0 [.inl a0, .inl a1] h (some (.long r.1)) r.2 := by
  refine CM.of (by decide) (Nat.le_of_ble_eq_true rfl) (fun X hl C hD hX hnm E => ?_)
  subst hl
  subst hD
  have C : CX X RX11 cX11_ways 5 := C
  show WW X h 0 0 0 [some (.int a0), some (.int a1), none, none, none] []
  unfold f_X11_ways at hf
  refine s_iload_n C dX11_ways_0 rfl ?_
  refine s_jn hf (fun j9 e9 hf => ?_)
  have k9 : j9  = some r → WW X h 0 0 9 [none, none, none, none, none] [] := by
    intro  hf
    rw [e9] at hf
    refine s_lconst C dX11_ways_9 (v := (0 : Int64)) (by decide) ?_
    exact s_lreturn C E dX11_ways_10 hf (Nat.le_of_ble_eq_true rfl) (Nat.le_of_ble_eq_true rfl)
  refine s_if_lt (tgt := 9) C dX11_ways_1 (by decide) hf (fun hf => ?_) (fun hf => ?_)
  · refine s_weak (lv' := [none, none, none, none, none]) trivial ?_
    exact k9 hf
  · refine s_iload_n C dX11_ways_4 rfl ?_
    refine s_iload_n C dX11_ways_5 rfl ?_
    refine s_icmp_le (tgt := 11) C dX11_ways_6 (by decide) hf (fun hf => ?_) (fun hf => ?_)
    · refine s_lconst C dX11_ways_11 (v := (1 : Int64)) (by decide) ?_
      refine s_lstore_n C dX11_ways_12 (by decide) (nc_i rfl) (lv' := [some (.int a0), some (.int a1), some (.long (1 : Int64)), none, none]) rfl ?_
      refine s_iconst C dX11_ways_13 (v := (1 : Int32)) (by decide) ?_
      refine s_istore C dX11_ways_14 (by decide) (nc_n rfl) (lv' := [some (.int a0), some (.int a1), some (.long (1 : Int64)), none, some (.int (1 : Int32))]) rfl ?_
      refine s_lp2 hf (fun G16 z16 q16 hf => ?_)
      have k16 : ∀ (n : Nat) (x1 : Int64) (x2 : Int32), G16 n x1 x2 = some r → WW X h 0 0 16 [some (.int a0), some (.int a1), some (.long x1), none, some (.int x2)] [] := by
        intro n
        induction n with
        | zero =>
          intro x1 x2 hf
          rw [z16] at hf
          cases hf
        | succ n ih16 =>
          intro x1 x2 hf
          have hf := (q16 n x1 x2).symm.trans hf
          refine s_iload C dX11_ways_16 rfl ?_
          refine s_iload_n C dX11_ways_18 rfl ?_
          refine s_icmp_gt (tgt := 42) C dX11_ways_19 (by decide) hf (fun hf => ?_) (fun hf => ?_)
          · refine s_lload_n C dX11_ways_42 rfl ?_
            exact s_lreturn C E dX11_ways_43 hf (Nat.le_of_ble_eq_true rfl) (Nat.le_of_ble_eq_true rfl)
          · refine s_lload_n C dX11_ways_22 rfl ?_
            refine s_iload_n C dX11_ways_23 rfl ?_
            refine s_iload_n C dX11_ways_24 rfl ?_
            refine s_isub C dX11_ways_25 ?_
            refine s_iload C dX11_ways_26 rfl ?_
            refine s_iadd C dX11_ways_28 ?_
            refine s_i2l C dX11_ways_29 ?_
            refine s_lmul C dX11_ways_30 ?_
            refine s_iload C dX11_ways_31 rfl ?_
            refine s_i2l C dX11_ways_33 ?_
            refine s_ldiv C dX11_ways_34 hf (fun hf => ?_)
            refine s_lstore_n C dX11_ways_35 (by decide) (nc_i rfl) (lv' := [some (.int a0), some (.int a1), some (.long ((x1 * (((a0 - a1) + x2).toInt64)) / x2.toInt64)), none, some (.int x2)]) rfl ?_
            refine s_iinc C dX11_ways_36 (v := (x2 + 1)) rfl rfl (by decide) (nc_n rfl) (lv' := [some (.int a0), some (.int a1), some (.long ((x1 * (((a0 - a1) + x2).toInt64)) / x2.toInt64)), none, some (.int (x2 + 1))]) rfl ?_
            refine s_goto (tgt := 16) C dX11_ways_39 (by decide) ?_
            exact ih16 _ _ hf
      exact k16 lpN _ _ hf
    · refine s_weak (lv' := [none, none, none, none, none]) trivial ?_
      exact k9 hf
/-- HillBoxes.waysOfAtMost(IIII)J -/
noncomputable def f_X11_waysOfAtMost (a0 : Int32) (a1 : Int32) (a2 : Int32) (a3 : Int32) (h : AH) : Option (Int64 × AH) :=
  lp (fun _ _ _ => none) (fun (L6 : Int64 → Int32 → AH → Option (Int64 × AH)) (x1 : Int64) (x2 : Int32) (h3 : AH) =>
    if a0 < x2 then
      some (x1, h3)
    else
      cl (f_X11_ways a3 x2 h3) fun v5 h4 =>
      cl (f_X11_ways (a1 - a3) (a2 - x2) h4) fun v7 h6 =>
      L6 (x1 + (v5 * v7)) (x2 + 1) h6) lpN (0 : Int64) (0 : Int32) h
set_option maxRecDepth 100000 in
set_option maxHeartbeats 4000000 in
theorem c_X11_waysOfAtMost (l : Launch) (D : DT) (a0 : Int32) (a1 : Int32) (a2 : Int32) (a3 : Int32) (h : AH) (r : Int64 × AH) (hf : f_X11_waysOfAtMost a0 a1 a2 a3 h = some r) : CM l D yX11_waysOfAtMost cX11_waysOfAtMost 7 (some .long) 1 24 0 0 [.inl a0, .inl a1, .inl a2, .inl a3] h (some (.long r.1)) r.2 := by
  refine CM.of (by decide) (Nat.le_of_ble_eq_true rfl) (fun X hl C hD hX hnm E => ?_)
  subst hl
  subst hD
  have C : CX X RX11 cX11_waysOfAtMost 7 := C
  show WW X h 0 0 0 [some (.int a0), some (.int a1), some (.int a2), some (.int a3), none, none, none] []
  unfold f_X11_waysOfAtMost at hf
  refine s_lconst C dX11_waysOfAtMost_0 (v := (0 : Int64)) (by decide) ?_
  refine s_lstore C dX11_waysOfAtMost_1 (by decide) (nc_i rfl) (lv' := [some (.int a0), some (.int a1), some (.int a2), some (.int a3), some (.long (0 : Int64)), none, none]) rfl ?_
  refine s_iconst C dX11_waysOfAtMost_3 (v := (0 : Int32)) (by decide) ?_
  refine s_istore C dX11_waysOfAtMost_4 (by decide) (nc_n rfl) (lv' := [some (.int a0), some (.int a1), some (.int a2), some (.int a3), some (.long (0 : Int64)), none, some (.int (0 : Int32))]) rfl ?_
  refine s_lp3 hf (fun G6 z6 q6 hf => ?_)
  have k6 : ∀ (n : Nat) (x1 : Int64) (x2 : Int32) (h3 : AH), G6 n x1 x2 h3 = some r → WW X h3 0 0 6 [some (.int a0), some (.int a1), some (.int a2), some (.int a3), some (.long x1), none, some (.int x2)] [] := by
    intro n
    induction n with
    | zero =>
      intro x1 x2 h3 hf
      rw [z6] at hf
      cases hf
    | succ n ih6 =>
      intro x1 x2 h3 hf
      have hf := (q6 n x1 x2 h3).symm.trans hf
      refine s_iload C dX11_waysOfAtMost_6 rfl ?_
      refine s_iload_n C dX11_waysOfAtMost_8 rfl ?_
      refine s_icmp_gt (tgt := 40) C dX11_waysOfAtMost_9 (by decide) hf (fun hf => ?_) (fun hf => ?_)
      · refine s_lload C dX11_waysOfAtMost_40 rfl ?_
        exact s_lreturn C E dX11_waysOfAtMost_42 hf (Nat.le_of_ble_eq_true rfl) (Nat.le_of_ble_eq_true rfl)
      · refine s_lload C dX11_waysOfAtMost_12 rfl ?_
        refine s_iload_n C dX11_waysOfAtMost_14 rfl ?_
        refine s_iload C dX11_waysOfAtMost_15 rfl ?_
        refine s_callS (rvf := fun x => some (.long x)) (st := [.long x1]) (fr := 0) (lo := 0) (mc := 0) (ms := 0) C wc_X11_ways wml_X11_531 wst_X11_ways dX11_waysOfAtMost_17 (As := [.inl a3, .inl x2]) rfl hf (fun x h' hF => c_X11_ways _ _ _ _ _ (x, h') hF) rfl (Nat.le_of_ble_eq_true rfl) (room_ok hX (Nat.le_of_ble_eq_true rfl) (Nat.le_of_ble_eq_true rfl)) (cell_ok hX (Nat.le_of_ble_eq_true rfl) (Nat.le_of_ble_eq_true rfl)) (fun v5 h4 hf => ?_)
        refine s_iload_n C dX11_waysOfAtMost_20 rfl ?_
        refine s_iload_n C dX11_waysOfAtMost_21 rfl ?_
        refine s_isub C dX11_waysOfAtMost_22 ?_
        refine s_iload_n C dX11_waysOfAtMost_23 rfl ?_
        refine s_iload C dX11_waysOfAtMost_24 rfl ?_
        refine s_isub C dX11_waysOfAtMost_26 ?_
        refine s_callS (rvf := fun x => some (.long x)) (st := [.long v5, .long x1]) (fr := 0) (lo := 0) (mc := 0) (ms := 0) C wc_X11_ways wml_X11_531 wst_X11_ways dX11_waysOfAtMost_27 (As := [.inl (a1 - a3), .inl (a2 - x2)]) rfl hf (fun x h' hF => c_X11_ways _ _ _ _ _ (x, h') hF) rfl (Nat.le_of_ble_eq_true rfl) (room_ok hX (Nat.le_of_ble_eq_true rfl) (Nat.le_of_ble_eq_true rfl)) (cell_ok hX (Nat.le_of_ble_eq_true rfl) (Nat.le_of_ble_eq_true rfl)) (fun v7 h6 hf => ?_)
        refine s_lmul C dX11_waysOfAtMost_30 ?_
        refine s_ladd C dX11_waysOfAtMost_31 ?_
        refine s_lstore C dX11_waysOfAtMost_32 (by decide) (nc_i rfl) (lv' := [some (.int a0), some (.int a1), some (.int a2), some (.int a3), some (.long (x1 + (v5 * v7))), none, some (.int x2)]) rfl ?_
        refine s_iinc C dX11_waysOfAtMost_34 (v := (x2 + 1)) rfl rfl (by decide) (nc_n rfl) (lv' := [some (.int a0), some (.int a1), some (.int a2), some (.int a3), some (.long (x1 + (v5 * v7))), none, some (.int (x2 + 1))]) rfl ?_
        refine s_goto (tgt := 6) C dX11_waysOfAtMost_37 (by decide) ?_
        exact ih6 _ _ _ hf
  exact k6 lpN _ _ _ hf
/-- HillBoxes.boundOf(III)I -/
noncomputable def f_X11_boundOf (a0 : Int32) (a1 : Int32) (a2 : Int32) (h : AH) : Option (Int32 × AH) :=
  lp (fun _ _ => none) (fun (L6 : Int32 → AH → Option (Int32 × AH)) (x1 : Int32) (h2 : AH) =>
    if x1 ≤ a2 then
      some (a2, h2)
    else
      cl (f_X11_waysOfAtMost a2 a0 a1 x1 h2) fun v4 h3 =>
      cl (f_X11_ways a0 a1 h3) fun v6 h5 =>
      if (lg_cmp ((20 : Int64) * v4) v6) < 0 then
        L6 (x1 + (-1)) h5
      else
        some (x1, h5)) lpN ((a0 - a1) + a2) h
set_option maxRecDepth 100000 in
set_option maxHeartbeats 4000000 in
theorem c_X11_boundOf (l : Launch) (D : DT) (a0 : Int32) (a1 : Int32) (a2 : Int32) (h : AH) (r : Int32 × AH) (hf : f_X11_boundOf a0 a1 a2 h = some r) : CM l D yX11_boundOf cX11_boundOf 4 (some .int) 2 50 0 0 [.inl a0, .inl a1, .inl a2] h (some (.int r.1)) r.2 := by
  refine CM.of (by decide) (Nat.le_of_ble_eq_true rfl) (fun X hl C hD hX hnm E => ?_)
  subst hl
  subst hD
  have C : CX X RX11 cX11_boundOf 4 := C
  show WW X h 0 0 0 [some (.int a0), some (.int a1), some (.int a2), none] []
  unfold f_X11_boundOf at hf
  refine s_iload_n C dX11_boundOf_0 rfl ?_
  refine s_iload_n C dX11_boundOf_1 rfl ?_
  refine s_isub C dX11_boundOf_2 ?_
  refine s_iload_n C dX11_boundOf_3 rfl ?_
  refine s_iadd C dX11_boundOf_4 ?_
  refine s_istore_n C dX11_boundOf_5 (by decide) (nc_i rfl) (lv' := [some (.int a0), some (.int a1), some (.int a2), some (.int ((a0 - a1) + a2))]) rfl ?_
  refine s_lp2 hf (fun G6 z6 q6 hf => ?_)
  have k6 : ∀ (n : Nat) (x1 : Int32) (h2 : AH), G6 n x1 h2 = some r → WW X h2 0 0 6 [some (.int a0), some (.int a1), some (.int a2), some (.int x1)] [] := by
    intro n
    induction n with
    | zero =>
      intro x1 h2 hf
      rw [z6] at hf
      cases hf
    | succ n ih6 =>
      intro x1 h2 hf
      have hf := (q6 n x1 h2).symm.trans hf
      refine s_iload_n C dX11_boundOf_6 rfl ?_
      refine s_iload_n C dX11_boundOf_7 rfl ?_
      refine s_icmp_le (tgt := 39) C dX11_boundOf_8 (by decide) hf (fun hf => ?_) (fun hf => ?_)
      · refine s_iload_n C dX11_boundOf_39 rfl ?_
        exact s_ireturn C E dX11_boundOf_40 hf (Nat.le_of_ble_eq_true rfl) (Nat.le_of_ble_eq_true rfl)
      · refine s_ldc2 C dX11_boundOf_11 wk_X11_525 ?_
        refine s_iload_n C dX11_boundOf_14 rfl ?_
        refine s_iload_n C dX11_boundOf_15 rfl ?_
        refine s_iload_n C dX11_boundOf_16 rfl ?_
        refine s_iload_n C dX11_boundOf_17 rfl ?_
        refine s_callS (rvf := fun x => some (.long x)) (st := [.long (20 : Int64)]) (fr := 1) (lo := 24) (mc := 0) (ms := 0) C wc_X11_waysOfAtMost wml_X11_527 wst_X11_waysOfAtMost dX11_boundOf_18 (As := [.inl a2, .inl a0, .inl a1, .inl x1]) rfl hf (fun x h' hF => c_X11_waysOfAtMost _ _ _ _ _ _ _ (x, h') hF) rfl (Nat.le_of_ble_eq_true rfl) (room_ok hX (Nat.le_of_ble_eq_true rfl) (Nat.le_of_ble_eq_true rfl)) (cell_ok hX (Nat.le_of_ble_eq_true rfl) (Nat.le_of_ble_eq_true rfl)) (fun v4 h3 hf => ?_)
        refine s_lmul C dX11_boundOf_21 ?_
        refine s_iload_n C dX11_boundOf_22 rfl ?_
        refine s_iload_n C dX11_boundOf_23 rfl ?_
        refine s_callS (rvf := fun x => some (.long x)) (st := [.long ((20 : Int64) * v4)]) (fr := 0) (lo := 0) (mc := 0) (ms := 0) C wc_X11_ways wml_X11_531 wst_X11_ways dX11_boundOf_24 (As := [.inl a0, .inl a1]) rfl hf (fun x h' hF => c_X11_ways _ _ _ _ _ (x, h') hF) rfl (Nat.le_of_ble_eq_true rfl) (room_ok hX (Nat.le_of_ble_eq_true rfl) (Nat.le_of_ble_eq_true rfl)) (cell_ok hX (Nat.le_of_ble_eq_true rfl) (Nat.le_of_ble_eq_true rfl)) (fun v6 h5 hf => ?_)
        refine s_lcmp C dX11_boundOf_27 ?_
        refine s_if_lt (tgt := 33) C dX11_boundOf_28 (by decide) hf (fun hf => ?_) (fun hf => ?_)
        · refine s_iinc C dX11_boundOf_33 (v := (x1 + (-1))) rfl rfl (by decide) (nc_i rfl) (lv' := [some (.int a0), some (.int a1), some (.int a2), some (.int (x1 + (-1)))]) rfl ?_
          refine s_goto (tgt := 6) C dX11_boundOf_36 (by decide) ?_
          exact ih6 _ _ hf
        · refine s_iload_n C dX11_boundOf_31 rfl ?_
          exact s_ireturn C E dX11_boundOf_32 hf (Nat.le_of_ble_eq_true rfl) (Nat.le_of_ble_eq_true rfl)
  exact k6 lpN _ _ hf
/-- HillBoxes.nobody(I)I -/
noncomputable def f_X11_nobody (o : Option Nat) (a1 : Int32) (h : AH) : Option (Int32 × AH) :=
  jn (
    some ((-1 : Int32), h)) fun j9 =>
  if a1 < 0 then
    j9
  else
    if a1 ≤ (3 : Int32) then
      lp (fun _ _ _ _ _ => none) (fun (L21 : Int32 → Int32 → Int32 → Int32 → AH → Option (Int32 × AH)) (x1 : Int32) (x2 : Int32) (x3 : Int32) (x4 : Int32) (h5 : AH) =>
        fR h5 [11] o 0 fun v6 =>
        fI h5 [3] v6 3 fun v7 =>
        if v7 ≤ x4 then
          if a1 = 0 then
            some (x1, h5)
          else
          if a1 = 1 then
            some (x2, h5)
          else
          if a1 = 2 then
            some (x3, h5)
          else
            jn (fun (x8 : Int32) (h9 : AH) =>
              some (x8, h9)) fun j161 =>
            if x1 ≤ (30 : Int32) then
              cl (f_X11_boundOf x1 x2 x3 h5) fun v11 h10 =>
              j161 v11 h10
            else
              j161 (-4 : Int32) h5
        else
          fR h5 [11] o 0 fun v12 =>
          rO h5 [3] v12 <| cl (f_X3_boxAt v12 x4 h5) fun v14 h13 =>
          jn (fun (x15 : Int32) (x16 : Int32) (x17 : Int32) (h18 : AH) =>
            L21 x15 x16 x17 (x4 + 1) h18) fun j103 =>
          if v14 = none then
            j103 x1 x2 x3 h13
          else
            rO h13 [1] v14 <| cl (f_X1_isDown v14 h13) fun v20 h19 =>
            if v20 = 0 then
              fI h19 [1] v14 12 fun v21 =>
              if v21 = 0 then
                rO h19 [1] v14 <| cl (f_X1_isLookedAt v14 h19) fun v23 h22 =>
                jn (fun (x24 : Int32) =>
                  fI h22 [1] v14 18 fun v25 =>
                  jn (fun (x26 : Int32) =>
                    j103 (x1 + 1) (x2 + x24) (x3 + x26) h22) fun j100 =>
                  if v25 = (1 : Int32) then
                    j100 (1 : Int32)
                  else
                    j100 (0 : Int32)) fun j82 =>
                if v23 = 0 then
                  j82 (0 : Int32)
                else
                  j82 (1 : Int32)
              else
                j103 x1 x2 x3 h19
            else
              j103 x1 x2 x3 h19) lpN (0 : Int32) (0 : Int32) (0 : Int32) (0 : Int32) h
    else
      j9
set_option maxRecDepth 100000 in
set_option maxHeartbeats 4000000 in
theorem c_X11_nobody (l : Launch) (D : DT) (o : Option Nat) (a1 : Int32) (h : AH) (r : Int32 × AH) (hf : f_X11_nobody o a1 h = some r) : CM l D yX11_nobody cX11_nobody 7 (some .int) 3 73 0 0 [.inr (.inr o), .inl a1] h (some (.int r.1)) r.2 := by
  refine CM.of (by decide) (Nat.le_of_ble_eq_true rfl) (fun X hl C hD hX hnm E => ?_)
  subst hl
  subst hD
  have C : CX X RX11 cX11_nobody 7 := C
  show WW X h 0 0 0 [some (rB (xD X).1 o), some (.int a1), none, none, none, none, none] []
  unfold f_X11_nobody at hf
  refine s_iload_n C dX11_nobody_0 rfl ?_
  refine s_jn hf (fun j9 e9 hf => ?_)
  have k9 : j9  = some r → WW X h 0 0 9 [none, none, none, none, none, none, none] [] := by
    intro  hf
    rw [e9] at hf
    refine s_iconst C dX11_nobody_9 (v := (-1 : Int32)) (by decide) ?_
    exact s_ireturn C E dX11_nobody_10 hf (Nat.le_of_ble_eq_true rfl) (Nat.le_of_ble_eq_true rfl)
  refine s_if_lt (tgt := 9) C dX11_nobody_1 (by decide) hf (fun hf => ?_) (fun hf => ?_)
  · refine s_weak (lv' := [none, none, none, none, none, none, none]) trivial ?_
    exact k9 hf
  · refine s_iload_n C dX11_nobody_4 rfl ?_
    refine s_iconst C dX11_nobody_5 (v := (3 : Int32)) (by decide) ?_
    refine s_icmp_le (tgt := 11) C dX11_nobody_6 (by decide) hf (fun hf => ?_) (fun hf => ?_)
    · refine s_iconst C dX11_nobody_11 (v := (0 : Int32)) (by decide) ?_
      refine s_istore_n C dX11_nobody_12 (by decide) (nc_i rfl) (lv' := [some (rB (xD X).1 o), some (.int a1), some (.int (0 : Int32)), none, none, none, none]) rfl ?_
      refine s_iconst C dX11_nobody_13 (v := (0 : Int32)) (by decide) ?_
      refine s_istore_n C dX11_nobody_14 (by decide) (nc_i rfl) (lv' := [some (rB (xD X).1 o), some (.int a1), some (.int (0 : Int32)), some (.int (0 : Int32)), none, none, none]) rfl ?_
      refine s_iconst C dX11_nobody_15 (v := (0 : Int32)) (by decide) ?_
      refine s_istore C dX11_nobody_16 (by decide) (nc_i rfl) (lv' := [some (rB (xD X).1 o), some (.int a1), some (.int (0 : Int32)), some (.int (0 : Int32)), some (.int (0 : Int32)), none, none]) rfl ?_
      refine s_iconst C dX11_nobody_18 (v := (0 : Int32)) (by decide) ?_
      refine s_istore C dX11_nobody_19 (by decide) (nc_i rfl) (lv' := [some (rB (xD X).1 o), some (.int a1), some (.int (0 : Int32)), some (.int (0 : Int32)), some (.int (0 : Int32)), some (.int (0 : Int32)), none]) rfl ?_
      refine s_lp5 hf (fun G21 z21 q21 hf => ?_)
      have k21 : ∀ (n : Nat) (x1 : Int32) (x2 : Int32) (x3 : Int32) (x4 : Int32) (h5 : AH), G21 n x1 x2 x3 x4 h5 = some r → WW X h5 0 0 21 [some (rB (xD X).1 o), some (.int a1), some (.int x1), some (.int x2), some (.int x3), some (.int x4), none] [] := by
        intro n
        induction n with
        | zero =>
          intro x1 x2 x3 x4 h5 hf
          rw [z21] at hf
          cases hf
        | succ n ih21 =>
          intro x1 x2 x3 x4 h5 hf
          have hf := (q21 n x1 x2 x3 x4 h5).symm.trans hf
          refine s_iload C dX11_nobody_21 rfl ?_
          refine s_aload_n C dX11_nobody_23 rfl ?_
          refine s_getR C fl_X11_10 dX11_nobody_24 hf (fun v6 hf => ?_)
          refine s_getI C fl_X11_70 dX11_nobody_27 hf (fun v7 hf => ?_)
          refine s_icmp_ge (tgt := 109) C dX11_nobody_30 (by decide) hf (fun hf => ?_) (fun hf => ?_)
          · refine s_iload_n C dX11_nobody_109 rfl ?_
            refine s_ite hf (fun e hf => ?_) (fun n0 hf => ?_)
            · refine s_tsw1 (tgt := 136) C dX11_nobody_110 e (by decide) (by decide) rfl (by decide) ?_
              refine s_iload_n C dX11_nobody_136 rfl ?_
              exact s_ireturn C E dX11_nobody_137 hf (Nat.le_of_ble_eq_true rfl) (Nat.le_of_ble_eq_true rfl)
            refine s_ite hf (fun e hf => ?_) (fun n1 hf => ?_)
            · refine s_tsw1 (tgt := 138) C dX11_nobody_110 e (by decide) (by decide) rfl (by decide) ?_
              refine s_iload_n C dX11_nobody_138 rfl ?_
              exact s_ireturn C E dX11_nobody_139 hf (Nat.le_of_ble_eq_true rfl) (Nat.le_of_ble_eq_true rfl)
            refine s_ite hf (fun e hf => ?_) (fun n2 hf => ?_)
            · refine s_tsw1 (tgt := 140) C dX11_nobody_110 e (by decide) (by decide) rfl (by decide) ?_
              refine s_iload C dX11_nobody_140 rfl ?_
              exact s_ireturn C E dX11_nobody_142 hf (Nat.le_of_ble_eq_true rfl) (Nat.le_of_ble_eq_true rfl)
            refine s_tswD (tgt := 143) C dX11_nobody_110 (by have n0x := n32 (i := 0) n0 rfl; have n1x := n32 (i := 1) n1 rfl; have n2x := n32 (i := 2) n2 rfl; omega) (by decide) ?_
            refine s_iload_n C dX11_nobody_143 rfl ?_
            refine s_bipush C dX11_nobody_144 (v := (30 : Int32)) (by decide) ?_
            refine s_jn hf (fun j161 e161 hf => ?_)
            have k161 : ∀ (x8 : Int32) (h9 : AH), j161 x8 h9 = some r → WW X h9 0 0 161 [none, none, none, none, none, none, none] [.int x8] := by
              intro x8 h9 hf
              rw [e161] at hf
              exact s_ireturn C E dX11_nobody_161 hf (Nat.le_of_ble_eq_true rfl) (Nat.le_of_ble_eq_true rfl)
            refine s_icmp_le (tgt := 154) C dX11_nobody_146 (by decide) hf (fun hf => ?_) (fun hf => ?_)
            · refine s_iload_n C dX11_nobody_154 rfl ?_
              refine s_iload_n C dX11_nobody_155 rfl ?_
              refine s_iload C dX11_nobody_156 rfl ?_
              refine s_callS (rvf := fun x => some (.int x)) (st := []) (fr := 2) (lo := 50) (mc := 0) (ms := 0) C wc_X11_boundOf wml_X11_419 wst_X11_boundOf dX11_nobody_158 (As := [.inl x1, .inl x2, .inl x3]) rfl hf (fun x h' hF => c_X11_boundOf _ _ _ _ _ _ (x, h') hF) rfl (Nat.le_of_ble_eq_true rfl) (room_ok hX (Nat.le_of_ble_eq_true rfl) (Nat.le_of_ble_eq_true rfl)) (cell_ok hX (Nat.le_of_ble_eq_true rfl) (Nat.le_of_ble_eq_true rfl)) (fun v11 h10 hf => ?_)
              refine s_weak (lv' := [none, none, none, none, none, none, none]) trivial ?_
              exact k161 _ _ hf
            · refine s_bipush C dX11_nobody_149 (v := (-4 : Int32)) (by decide) ?_
              refine s_goto (tgt := 161) C dX11_nobody_151 (by decide) ?_
              refine s_weak (lv' := [none, none, none, none, none, none, none]) trivial ?_
              exact k161 _ _ hf
          · refine s_aload_n C dX11_nobody_33 rfl ?_
            refine s_getR C fl_X11_10 dX11_nobody_34 hf (fun v12 hf => ?_)
            refine s_iload C dX11_nobody_37 rfl ?_
            refine s_callV (rvf := fun x => some (rB (xD X).1 x)) (st := []) (fr := 0) (lo := 0) (mc := 0) (ms := 0) C [3] wc_X3_boxAt wml_X11_130 wim_X3_boxAt wsl_3_X3_boxAt dX11_nobody_39 (As := [.inl x4]) rfl hf (fun x h' hF => c_X3_boxAt _ _ _ _ _ (x, h') hF) rfl (Nat.le_of_ble_eq_true rfl) (room_ok hX (Nat.le_of_ble_eq_true rfl) (Nat.le_of_ble_eq_true rfl)) (cell_ok hX (Nat.le_of_ble_eq_true rfl) (Nat.le_of_ble_eq_true rfl)) (fun v14 h13 hf => ?_)
            refine s_astore C dX11_nobody_42 (by decide) (nc_i rfl) (lv' := [some (rB (xD X).1 o), some (.int a1), some (.int x1), some (.int x2), some (.int x3), some (.int x4), some (rB (xD X).1 v14)]) rfl ?_
            refine s_aload C dX11_nobody_44 rfl ?_
            refine s_jn hf (fun j103 e103 hf => ?_)
            have k103 : ∀ (x15 : Int32) (x16 : Int32) (x17 : Int32) (h18 : AH), j103 x15 x16 x17 h18 = some r → WW X h18 0 0 103 [some (rB (xD X).1 o), some (.int a1), some (.int x15), some (.int x16), some (.int x17), some (.int x4), none] [] := by
              intro x15 x16 x17 h18 hf
              rw [e103] at hf
              refine s_iinc C dX11_nobody_103 (v := (x4 + 1)) rfl rfl (by decide) (nc_i rfl) (lv' := [some (rB (xD X).1 o), some (.int a1), some (.int x15), some (.int x16), some (.int x17), some (.int (x4 + 1)), none]) rfl ?_
              refine s_goto (tgt := 21) C dX11_nobody_106 (by decide) ?_
              exact ih21 _ _ _ _ _ hf
            refine s_ifnull (tgt := 103) C dX11_nobody_46 (by decide) hf (fun hf => ?_) (fun hf => ?_)
            · refine s_weak (lv' := [some (rB (xD X).1 o), some (.int a1), some (.int x1), some (.int x2), some (.int x3), some (.int x4), none]) ⟨rfl, ⟨rfl, ⟨rfl, ⟨rfl, ⟨rfl, ⟨rfl, trivial⟩⟩⟩⟩⟩⟩ ?_
              exact k103 _ _ _ _ hf
            · refine s_aload C dX11_nobody_49 rfl ?_
              refine s_callV (rvf := fun x => some (.int x)) (st := []) (fr := 0) (lo := 0) (mc := 0) (ms := 0) C [1] wc_X1_isDown wml_X11_137 wim_X1_isDown wsl_1_X1_isDown dX11_nobody_51 (As := []) rfl hf (fun x h' hF => c_X1_isDown _ _ _ _ (x, h') hF) rfl (Nat.le_of_ble_eq_true rfl) (room_ok hX (Nat.le_of_ble_eq_true rfl) (Nat.le_of_ble_eq_true rfl)) (cell_ok hX (Nat.le_of_ble_eq_true rfl) (Nat.le_of_ble_eq_true rfl)) (fun v20 h19 hf => ?_)
              refine s_if_ne (tgt := 103) C dX11_nobody_54 (by decide) hf (fun hf => ?_) (fun hf => ?_)
              · refine s_weak (lv' := [some (rB (xD X).1 o), some (.int a1), some (.int x1), some (.int x2), some (.int x3), some (.int x4), none]) ⟨rfl, ⟨rfl, ⟨rfl, ⟨rfl, ⟨rfl, ⟨rfl, trivial⟩⟩⟩⟩⟩⟩ ?_
                exact k103 _ _ _ _ hf
              · refine s_aload C dX11_nobody_57 rfl ?_
                refine s_getI C fl_X11_410 dX11_nobody_59 hf (fun v21 hf => ?_)
                refine s_if_ne (tgt := 103) C dX11_nobody_62 (by decide) hf (fun hf => ?_) (fun hf => ?_)
                · refine s_weak (lv' := [some (rB (xD X).1 o), some (.int a1), some (.int x1), some (.int x2), some (.int x3), some (.int x4), none]) ⟨rfl, ⟨rfl, ⟨rfl, ⟨rfl, ⟨rfl, ⟨rfl, trivial⟩⟩⟩⟩⟩⟩ ?_
                  exact k103 _ _ _ _ hf
                · refine s_iinc C dX11_nobody_65 (v := (x1 + 1)) rfl rfl (by decide) (nc_i rfl) (lv' := [some (rB (xD X).1 o), some (.int a1), some (.int (x1 + 1)), some (.int x2), some (.int x3), some (.int x4), some (rB (xD X).1 v14)]) rfl ?_
                  refine s_iload_n C dX11_nobody_68 rfl ?_
                  refine s_aload C dX11_nobody_69 rfl ?_
                  refine s_callV (rvf := fun x => some (.int x)) (st := [.int x2]) (fr := 0) (lo := 0) (mc := 0) (ms := 0) C [1] wc_X1_isLookedAt wml_X11_413 wim_X1_isLookedAt wsl_1_X1_isLookedAt dX11_nobody_71 (As := []) rfl hf (fun x h' hF => c_X1_isLookedAt _ _ _ _ (x, h') hF) rfl (Nat.le_of_ble_eq_true rfl) (room_ok hX (Nat.le_of_ble_eq_true rfl) (Nat.le_of_ble_eq_true rfl)) (cell_ok hX (Nat.le_of_ble_eq_true rfl) (Nat.le_of_ble_eq_true rfl)) (fun v23 h22 hf => ?_)
                  refine s_jn hf (fun j82 e82 hf => ?_)
                  have k82 : ∀ (x24 : Int32), j82 x24 = some r → WW X h22 0 0 82 [some (rB (xD X).1 o), some (.int a1), some (.int (x1 + 1)), none, some (.int x3), some (.int x4), some (rB (xD X).1 v14)] [.int x24, .int x2] := by
                    intro x24 hf
                    rw [e82] at hf
                    refine s_iadd C dX11_nobody_82 ?_
                    refine s_istore_n C dX11_nobody_83 (by decide) (nc_i rfl) (lv' := [some (rB (xD X).1 o), some (.int a1), some (.int (x1 + 1)), some (.int (x2 + x24)), some (.int x3), some (.int x4), some (rB (xD X).1 v14)]) rfl ?_
                    refine s_iload C dX11_nobody_84 rfl ?_
                    refine s_aload C dX11_nobody_86 rfl ?_
                    refine s_getI C fl_X11_416 dX11_nobody_88 hf (fun v25 hf => ?_)
                    refine s_iconst C dX11_nobody_91 (v := (1 : Int32)) (by decide) ?_
                    refine s_jn hf (fun j100 e100 hf => ?_)
                    have k100 : ∀ (x26 : Int32), j100 x26 = some r → WW X h22 0 0 100 [some (rB (xD X).1 o), some (.int a1), some (.int (x1 + 1)), some (.int (x2 + x24)), none, some (.int x4), none] [.int x26, .int x3] := by
                      intro x26 hf
                      rw [e100] at hf
                      refine s_iadd C dX11_nobody_100 ?_
                      refine s_istore C dX11_nobody_101 (by decide) (nc_i rfl) (lv' := [some (rB (xD X).1 o), some (.int a1), some (.int (x1 + 1)), some (.int (x2 + x24)), some (.int (x3 + x26)), some (.int x4), none]) rfl ?_
                      exact k103 _ _ _ _ hf
                    refine s_icmp_ne (tgt := 99) C dX11_nobody_92 (by decide) hf (fun hf => ?_) (fun hf => ?_)
                    · refine s_iconst C dX11_nobody_99 (v := (0 : Int32)) (by decide) ?_
                      refine s_weak (lv' := [some (rB (xD X).1 o), some (.int a1), some (.int (x1 + 1)), some (.int (x2 + x24)), none, some (.int x4), none]) ⟨rfl, ⟨rfl, ⟨rfl, ⟨rfl, ⟨rfl, trivial⟩⟩⟩⟩⟩ ?_
                      exact k100 _ hf
                    · refine s_iconst C dX11_nobody_95 (v := (1 : Int32)) (by decide) ?_
                      refine s_goto (tgt := 100) C dX11_nobody_96 (by decide) ?_
                      refine s_weak (lv' := [some (rB (xD X).1 o), some (.int a1), some (.int (x1 + 1)), some (.int (x2 + x24)), none, some (.int x4), none]) ⟨rfl, ⟨rfl, ⟨rfl, ⟨rfl, ⟨rfl, trivial⟩⟩⟩⟩⟩ ?_
                      exact k100 _ hf
                  refine s_if_eq (tgt := 81) C dX11_nobody_74 (by decide) hf (fun hf => ?_) (fun hf => ?_)
                  · refine s_iconst C dX11_nobody_81 (v := (0 : Int32)) (by decide) ?_
                    refine s_weak (lv' := [some (rB (xD X).1 o), some (.int a1), some (.int (x1 + 1)), none, some (.int x3), some (.int x4), some (rB (xD X).1 v14)]) ⟨rfl, ⟨rfl, ⟨rfl, ⟨rfl, ⟨rfl, ⟨rfl, trivial⟩⟩⟩⟩⟩⟩ ?_
                    exact k82 _ hf
                  · refine s_iconst C dX11_nobody_77 (v := (1 : Int32)) (by decide) ?_
                    refine s_goto (tgt := 82) C dX11_nobody_78 (by decide) ?_
                    refine s_weak (lv' := [some (rB (xD X).1 o), some (.int a1), some (.int (x1 + 1)), none, some (.int x3), some (.int x4), some (rB (xD X).1 v14)]) ⟨rfl, ⟨rfl, ⟨rfl, ⟨rfl, ⟨rfl, ⟨rfl, trivial⟩⟩⟩⟩⟩⟩ ?_
                    exact k82 _ hf
      exact k21 lpN _ _ _ _ _ hf
    · refine s_weak (lv' := [none, none, none, none, none, none, none]) trivial ?_
      exact k9 hf
/-- HillBoxes.ofBox(LHillBoxes$Box;I)I -/
noncomputable def f_X11_ofBox (a0 : Option Nat) (a1 : Int32) (h : AH) : Option (Int32 × AH) :=
  if a1 = 1 then
    fI h [1] a0 8 fun v1 =>
    some (v1, h)
  else
  if a1 = 2 then
    fI h [1] a0 9 fun v2 =>
    some (v2, h)
  else
  if a1 = 3 then
    fI h [1] a0 2 fun v3 =>
    some (v3, h)
  else
  if a1 = 4 then
    fI h [1] a0 11 fun v4 =>
    some (v4, h)
  else
  if a1 = 5 then
    rO h [1] a0 <| cl (f_X1_liesNow a0 h) fun v6 h5 =>
    some (v6, h5)
  else
  if a1 = 6 then
    fI h [1] a0 12 fun v7 =>
    some (v7, h)
  else
  if a1 = 7 then
    fI h [1] a0 13 fun v8 =>
    some (v8, h)
  else
    some ((-2000000000 : Int32), h)
set_option maxRecDepth 100000 in
set_option maxHeartbeats 4000000 in
theorem c_X11_ofBox (l : Launch) (D : DT) (a0 : Option Nat) (a1 : Int32) (h : AH) (r : Int32 × AH) (hf : f_X11_ofBox a0 a1 h = some r) : CM l D yX11_ofBox cX11_ofBox 2 (some .int) 1 20 0 0 [.inr (.inr a0), .inl a1] h (some (.int r.1)) r.2 := by
  refine CM.of (by decide) (Nat.le_of_ble_eq_true rfl) (fun X hl C hD hX hnm E => ?_)
  subst hl
  subst hD
  have C : CX X RX11 cX11_ofBox 2 := C
  show WW X h 0 0 0 [some (rB (xD X).1 a0), some (.int a1)] []
  unfold f_X11_ofBox at hf
  refine s_iload_n C dX11_ofBox_0 rfl ?_
  refine s_ite hf (fun e hf => ?_) (fun n0 hf => ?_)
  · refine s_tsw1 (tgt := 44) C dX11_ofBox_1 e (by decide) (by decide) rfl (by decide) ?_
    refine s_aload_n C dX11_ofBox_44 rfl ?_
    refine s_getI C fl_X11_274 dX11_ofBox_45 hf (fun v1 hf => ?_)
    exact s_ireturn C E dX11_ofBox_48 hf (Nat.le_of_ble_eq_true rfl) (Nat.le_of_ble_eq_true rfl)
  refine s_ite hf (fun e hf => ?_) (fun n1 hf => ?_)
  · refine s_tsw1 (tgt := 49) C dX11_ofBox_1 e (by decide) (by decide) rfl (by decide) ?_
    refine s_aload_n C dX11_ofBox_49 rfl ?_
    refine s_getI C fl_X11_228 dX11_ofBox_50 hf (fun v2 hf => ?_)
    exact s_ireturn C E dX11_ofBox_53 hf (Nat.le_of_ble_eq_true rfl) (Nat.le_of_ble_eq_true rfl)
  refine s_ite hf (fun e hf => ?_) (fun n2 hf => ?_)
  · refine s_tsw1 (tgt := 54) C dX11_ofBox_1 e (by decide) (by decide) rfl (by decide) ?_
    refine s_aload_n C dX11_ofBox_54 rfl ?_
    refine s_getI C fl_X11_505 dX11_ofBox_55 hf (fun v3 hf => ?_)
    exact s_ireturn C E dX11_ofBox_58 hf (Nat.le_of_ble_eq_true rfl) (Nat.le_of_ble_eq_true rfl)
  refine s_ite hf (fun e hf => ?_) (fun n3 hf => ?_)
  · refine s_tsw1 (tgt := 59) C dX11_ofBox_1 e (by decide) (by decide) rfl (by decide) ?_
    refine s_aload_n C dX11_ofBox_59 rfl ?_
    refine s_getI C fl_X11_153 dX11_ofBox_60 hf (fun v4 hf => ?_)
    exact s_ireturn C E dX11_ofBox_63 hf (Nat.le_of_ble_eq_true rfl) (Nat.le_of_ble_eq_true rfl)
  refine s_ite hf (fun e hf => ?_) (fun n4 hf => ?_)
  · refine s_tsw1 (tgt := 64) C dX11_ofBox_1 e (by decide) (by decide) rfl (by decide) ?_
    refine s_aload_n C dX11_ofBox_64 rfl ?_
    refine s_callV (rvf := fun x => some (.int x)) (st := []) (fr := 0) (lo := 0) (mc := 0) (ms := 0) C [1] wc_X1_liesNow wml_X11_508 wim_X1_liesNow wsl_1_X1_liesNow dX11_ofBox_65 (As := []) rfl hf (fun x h' hF => c_X1_liesNow _ _ _ _ (x, h') hF) rfl (Nat.le_of_ble_eq_true rfl) (room_ok hX (Nat.le_of_ble_eq_true rfl) (Nat.le_of_ble_eq_true rfl)) (cell_ok hX (Nat.le_of_ble_eq_true rfl) (Nat.le_of_ble_eq_true rfl)) (fun v6 h5 hf => ?_)
    exact s_ireturn C E dX11_ofBox_68 hf (Nat.le_of_ble_eq_true rfl) (Nat.le_of_ble_eq_true rfl)
  refine s_ite hf (fun e hf => ?_) (fun n5 hf => ?_)
  · refine s_tsw1 (tgt := 69) C dX11_ofBox_1 e (by decide) (by decide) rfl (by decide) ?_
    refine s_aload_n C dX11_ofBox_69 rfl ?_
    refine s_getI C fl_X11_410 dX11_ofBox_70 hf (fun v7 hf => ?_)
    exact s_ireturn C E dX11_ofBox_73 hf (Nat.le_of_ble_eq_true rfl) (Nat.le_of_ble_eq_true rfl)
  refine s_ite hf (fun e hf => ?_) (fun n6 hf => ?_)
  · refine s_tsw1 (tgt := 74) C dX11_ofBox_1 e (by decide) (by decide) rfl (by decide) ?_
    refine s_aload_n C dX11_ofBox_74 rfl ?_
    refine s_getI C fl_X11_322 dX11_ofBox_75 hf (fun v8 hf => ?_)
    exact s_ireturn C E dX11_ofBox_78 hf (Nat.le_of_ble_eq_true rfl) (Nat.le_of_ble_eq_true rfl)
  refine s_tswD (tgt := 79) C dX11_ofBox_1 (by have n0x := n32 (i := 1) n0 rfl; have n1x := n32 (i := 2) n1 rfl; have n2x := n32 (i := 3) n2 rfl; have n3x := n32 (i := 4) n3 rfl; have n4x := n32 (i := 5) n4 rfl; have n5x := n32 (i := 6) n5 rfl; have n6x := n32 (i := 7) n6 rfl; omega) (by decide) ?_
  refine s_ldc C dX11_ofBox_79 wk_X11_60 ?_
  exact s_ireturn C E dX11_ofBox_81 hf (Nat.le_of_ble_eq_true rfl) (Nat.le_of_ble_eq_true rfl)
/-- HillBoxes.ofFinder(LHillBoxes$Finder;I)I -/
noncomputable def f_X11_ofFinder (o : Option Nat) (a1 : Option Nat) (a2 : Int32) (h : AH) : Option (Int32 × AH) :=
  if a2 = 1 then
    fI h [2] a1 2 fun v1 =>
    some (v1, h)
  else
  if a2 = 2 then
    fI h [2] a1 3 fun v2 =>
    some (v2, h)
  else
  if a2 = 3 then
    fI h [2] a1 4 fun v3 =>
    some (v3, h)
  else
  if a2 = 4 then
    fR h [11] o 0 fun v4 =>
    fI h [2] a1 0 fun v5 =>
    rO h [3] v4 <| cl (f_X3_ownOf v4 v5 h) fun v7 h6 =>
    some (v7, h6)
  else
    some ((-2000000000 : Int32), h)
set_option maxRecDepth 100000 in
set_option maxHeartbeats 4000000 in
theorem c_X11_ofFinder (l : Launch) (D : DT) (o : Option Nat) (a1 : Option Nat) (a2 : Int32) (h : AH) (r : Int32 × AH) (hf : f_X11_ofFinder o a1 a2 h = some r) : CM l D yX11_ofFinder cX11_ofFinder 3 (some .int) 2 46 0 0 [.inr (.inr o), .inr (.inr a1), .inl a2] h (some (.int r.1)) r.2 := by
  refine CM.of (by decide) (Nat.le_of_ble_eq_true rfl) (fun X hl C hD hX hnm E => ?_)
  subst hl
  subst hD
  have C : CX X RX11 cX11_ofFinder 3 := C
  show WW X h 0 0 0 [some (rB (xD X).1 o), some (rB (xD X).1 a1), some (.int a2)] []
  unfold f_X11_ofFinder at hf
  refine s_iload_n C dX11_ofFinder_0 rfl ?_
  refine s_ite hf (fun e hf => ?_) (fun n0 hf => ?_)
  · refine s_tsw1 (tgt := 32) C dX11_ofFinder_1 e (by decide) (by decide) rfl (by decide) ?_
    refine s_aload_n C dX11_ofFinder_32 rfl ?_
    refine s_getI C fl_X11_496 dX11_ofFinder_33 hf (fun v1 hf => ?_)
    exact s_ireturn C E dX11_ofFinder_36 hf (Nat.le_of_ble_eq_true rfl) (Nat.le_of_ble_eq_true rfl)
  refine s_ite hf (fun e hf => ?_) (fun n1 hf => ?_)
  · refine s_tsw1 (tgt := 37) C dX11_ofFinder_1 e (by decide) (by decide) rfl (by decide) ?_
    refine s_aload_n C dX11_ofFinder_37 rfl ?_
    refine s_getI C fl_X11_499 dX11_ofFinder_38 hf (fun v2 hf => ?_)
    exact s_ireturn C E dX11_ofFinder_41 hf (Nat.le_of_ble_eq_true rfl) (Nat.le_of_ble_eq_true rfl)
  refine s_ite hf (fun e hf => ?_) (fun n2 hf => ?_)
  · refine s_tsw1 (tgt := 42) C dX11_ofFinder_1 e (by decide) (by decide) rfl (by decide) ?_
    refine s_aload_n C dX11_ofFinder_42 rfl ?_
    refine s_getI C fl_X11_97 dX11_ofFinder_43 hf (fun v3 hf => ?_)
    exact s_ireturn C E dX11_ofFinder_46 hf (Nat.le_of_ble_eq_true rfl) (Nat.le_of_ble_eq_true rfl)
  refine s_ite hf (fun e hf => ?_) (fun n3 hf => ?_)
  · refine s_tsw1 (tgt := 47) C dX11_ofFinder_1 e (by decide) (by decide) rfl (by decide) ?_
    refine s_aload_n C dX11_ofFinder_47 rfl ?_
    refine s_getR C fl_X11_10 dX11_ofFinder_48 hf (fun v4 hf => ?_)
    refine s_aload_n C dX11_ofFinder_51 rfl ?_
    refine s_getI C fl_X11_120 dX11_ofFinder_52 hf (fun v5 hf => ?_)
    refine s_callV (rvf := fun x => some (.int x)) (st := []) (fr := 1) (lo := 22) (mc := 0) (ms := 0) C [3] wc_X3_ownOf wml_X11_502 wim_X3_ownOf wsl_3_X3_ownOf dX11_ofFinder_55 (As := [.inl v5]) rfl hf (fun x h' hF => c_X3_ownOf _ _ _ _ _ (x, h') hF) rfl (Nat.le_of_ble_eq_true rfl) (room_ok hX (Nat.le_of_ble_eq_true rfl) (Nat.le_of_ble_eq_true rfl)) (cell_ok hX (Nat.le_of_ble_eq_true rfl) (Nat.le_of_ble_eq_true rfl)) (fun v7 h6 hf => ?_)
    exact s_ireturn C E dX11_ofFinder_58 hf (Nat.le_of_ble_eq_true rfl) (Nat.le_of_ble_eq_true rfl)
  refine s_tswD (tgt := 59) C dX11_ofFinder_1 (by have n0x := n32 (i := 1) n0 rfl; have n1x := n32 (i := 2) n1 rfl; have n2x := n32 (i := 3) n2 rfl; have n3x := n32 (i := 4) n3 rfl; omega) (by decide) ?_
  refine s_ldc C dX11_ofFinder_59 wk_X11_60 ?_
  exact s_ireturn C E dX11_ofFinder_61 hf (Nat.le_of_ble_eq_true rfl) (Nat.le_of_ble_eq_true rfl)
/-- HillBoxes.ofThing(LHillBoxes$Thing;I)I -/
noncomputable def f_X11_ofThing (o : Option Nat) (a1 : Option Nat) (a2 : Int32) (h : AH) : Option (Int32 × AH) :=
  if a2 = 1 then
    fR h [11] o 2 fun v1 =>
    fI h [9] a1 4 fun v2 =>
    rO h [4] v1 <| cl (f_X4_whereAfter v1 a1 (v2 - (1 : Int32)) h) fun v4 h3 =>
    some (v4, h3)
  else
  if a2 = 2 then
    fI h [9] a1 4 fun v5 =>
    some (v5, h)
  else
    some ((-2000000000 : Int32), h)
set_option maxRecDepth 100000 in
set_option maxHeartbeats 4000000 in
theorem c_X11_ofThing (l : Launch) (D : DT) (o : Option Nat) (a1 : Option Nat) (a2 : Int32) (h : AH) (r : Int32 × AH) (hf : f_X11_ofThing o a1 a2 h = some r) : CM l D yX11_ofThing cX11_ofThing 3 (some .int) 1 22 0 0 [.inr (.inr o), .inr (.inr a1), .inl a2] h (some (.int r.1)) r.2 := by
  refine CM.of (by decide) (Nat.le_of_ble_eq_true rfl) (fun X hl C hD hX hnm E => ?_)
  subst hl
  subst hD
  have C : CX X RX11 cX11_ofThing 3 := C
  show WW X h 0 0 0 [some (rB (xD X).1 o), some (rB (xD X).1 a1), some (.int a2)] []
  unfold f_X11_ofThing at hf
  refine s_iload_n C dX11_ofThing_0 rfl ?_
  refine s_ite hf (fun e hf => ?_) (fun n0 hf => ?_)
  · refine s_lsw1 (tgt := 28) C dX11_ofThing_1 (by decide) e rfl (by decide) ?_
    refine s_aload_n C dX11_ofThing_28 rfl ?_
    refine s_getR C fl_X11_30 dX11_ofThing_29 hf (fun v1 hf => ?_)
    refine s_aload_n C dX11_ofThing_32 rfl ?_
    refine s_aload_n C dX11_ofThing_33 rfl ?_
    refine s_getI C fl_X11_344 dX11_ofThing_34 hf (fun v2 hf => ?_)
    refine s_iconst C dX11_ofThing_37 (v := (1 : Int32)) (by decide) ?_
    refine s_isub C dX11_ofThing_38 ?_
    refine s_callV (rvf := fun x => some (.int x)) (st := []) (fr := 0) (lo := 0) (mc := 0) (ms := 0) C [4] wc_X4_whereAfter wml_X11_511 wim_X4_whereAfter wsl_4_X4_whereAfter dX11_ofThing_39 (As := [.inr (.inr a1), .inl (v2 - (1 : Int32))]) rfl hf (fun x h' hF => c_X4_whereAfter _ _ _ _ _ _ (x, h') hF) rfl (Nat.le_of_ble_eq_true rfl) (room_ok hX (Nat.le_of_ble_eq_true rfl) (Nat.le_of_ble_eq_true rfl)) (cell_ok hX (Nat.le_of_ble_eq_true rfl) (Nat.le_of_ble_eq_true rfl)) (fun v4 h3 hf => ?_)
    exact s_ireturn C E dX11_ofThing_42 hf (Nat.le_of_ble_eq_true rfl) (Nat.le_of_ble_eq_true rfl)
  refine s_ite hf (fun e hf => ?_) (fun n1 hf => ?_)
  · refine s_lsw1 (tgt := 43) C dX11_ofThing_1 (by decide) e rfl (by decide) ?_
    refine s_aload_n C dX11_ofThing_43 rfl ?_
    refine s_getI C fl_X11_344 dX11_ofThing_44 hf (fun v5 hf => ?_)
    exact s_ireturn C E dX11_ofThing_47 hf (Nat.le_of_ble_eq_true rfl) (Nat.le_of_ble_eq_true rfl)
  refine s_lswitch (tgt := 48) C dX11_ofThing_1 (by decide) (by show Op.lookupswitch.offset [(1, 27), (2, 42)] _ _ = _; simp only [Op.lookupswitch.offset_cons, Op.lookupswitch.offset_nil]; rw [if_neg (fun z => n32 (i := 1) n0 rfl z.symm), if_neg (fun z => n32 (i := 2) n1 rfl z.symm)]) (by decide) ?_
  refine s_ldc C dX11_ofThing_48 wk_X11_60 ?_
  exact s_ireturn C E dX11_ofThing_50 hf (Nat.le_of_ble_eq_true rfl) (Nat.le_of_ble_eq_true rfl)
/-- HillBoxes.ofBody(II)I -/
noncomputable def f_X11_ofBody (o : Option Nat) (a1 : Int32) (a2 : Int32) (h : AH) : Option (Int32 × AH) :=
  fR h [11] o 0 fun v1 =>
  rO h [3] v1 <| cl (f_X3_bodyAt v1 a1 h) fun v3 h2 =>
  if v3 = none then
    some ((-2000000000 : Int32), h2)
  else
    if a2 = 0 then
      fI h2 [0, 1, 2, 9] v3 1 fun v13 =>
      some (v13, h2)
    else
      iO h2 [2] v3 fun v4 =>
      if v4 = 0 then
        iO h2 [1] v3 fun v5 =>
        if v5 = 0 then
          iO h2 [9] v3 fun v6 =>
          if v6 = 0 then
            some ((-2000000000 : Int32), h2)
          else
            cO h2 [9] v3 <|
            rO h2 [11] o <| cl (f_X11_ofThing o v3 a2 h2) fun v8 h7 =>
            some (v8, h7)
        else
          cO h2 [1] v3 <|
          cl (f_X11_ofBox v3 a2 h2) fun v10 h9 =>
          some (v10, h9)
      else
        cO h2 [2] v3 <|
        rO h2 [11] o <| cl (f_X11_ofFinder o v3 a2 h2) fun v12 h11 =>
        some (v12, h11)
set_option maxRecDepth 100000 in
set_option maxHeartbeats 4000000 in
theorem c_X11_ofBody (l : Launch) (D : DT) (o : Option Nat) (a1 : Int32) (a2 : Int32) (h : AH) (r : Int32 × AH) (hf : f_X11_ofBody o a1 a2 h = some r) : CM l D yX11_ofBody cX11_ofBody 4 (some .int) 3 68 0 0 [.inr (.inr o), .inl a1, .inl a2] h (some (.int r.1)) r.2 := by
  refine CM.of (by decide) (Nat.le_of_ble_eq_true rfl) (fun X hl C hD hX hnm E => ?_)
  subst hl
  subst hD
  have C : CX X RX11 cX11_ofBody 4 := C
  show WW X h 0 0 0 [some (rB (xD X).1 o), some (.int a1), some (.int a2), none] []
  unfold f_X11_ofBody at hf
  refine s_aload_n C dX11_ofBody_0 rfl ?_
  refine s_getR C fl_X11_10 dX11_ofBody_1 hf (fun v1 hf => ?_)
  refine s_iload_n C dX11_ofBody_4 rfl ?_
  refine s_callV (rvf := fun x => some (rB (xD X).1 x)) (st := []) (fr := 0) (lo := 0) (mc := 0) (ms := 0) C [3] wc_X3_bodyAt wml_X11_156 wim_X3_bodyAt wsl_3_X3_bodyAt dX11_ofBody_5 (As := [.inl a1]) rfl hf (fun x h' hF => c_X3_bodyAt _ _ _ _ _ (x, h') hF) rfl (Nat.le_of_ble_eq_true rfl) (room_ok hX (Nat.le_of_ble_eq_true rfl) (Nat.le_of_ble_eq_true rfl)) (cell_ok hX (Nat.le_of_ble_eq_true rfl) (Nat.le_of_ble_eq_true rfl)) (fun v3 h2 hf => ?_)
  refine s_astore_n C dX11_ofBody_8 (by decide) (nc_i rfl) (lv' := [some (rB (xD X).1 o), some (.int a1), some (.int a2), some (rB (xD X).1 v3)]) rfl ?_
  refine s_aload_n C dX11_ofBody_9 rfl ?_
  refine s_ifnonnull (tgt := 16) C dX11_ofBody_10 (by decide) hf (fun hf => ?_) (fun hf => ?_)
  · refine s_iload_n C dX11_ofBody_16 rfl ?_
    refine s_if_ne (tgt := 25) C dX11_ofBody_17 (by decide) hf (fun hf => ?_) (fun hf => ?_)
    · refine s_aload_n C dX11_ofBody_25 rfl ?_
      refine s_instof C (t := 2) (by decide) wcl_X11_85 dX11_ofBody_26 hf (fun v4 hf => ?_)
      refine s_if_eq (tgt := 42) C dX11_ofBody_29 (by decide) hf (fun hf => ?_) (fun hf => ?_)
      · refine s_aload_n C dX11_ofBody_42 rfl ?_
        refine s_instof C (t := 1) (by decide) wcl_X11_118 dX11_ofBody_43 hf (fun v5 hf => ?_)
        refine s_if_eq (tgt := 58) C dX11_ofBody_46 (by decide) hf (fun hf => ?_) (fun hf => ?_)
        · refine s_aload_n C dX11_ofBody_58 rfl ?_
          refine s_instof C (t := 9) (by decide) wcl_X11_68 dX11_ofBody_59 hf (fun v6 hf => ?_)
          refine s_if_eq (tgt := 75) C dX11_ofBody_62 (by decide) hf (fun hf => ?_) (fun hf => ?_)
          · refine s_ldc C dX11_ofBody_75 wk_X11_60 ?_
            exact s_ireturn C E dX11_ofBody_77 hf (Nat.le_of_ble_eq_true rfl) (Nat.le_of_ble_eq_true rfl)
          · refine s_aload_n C dX11_ofBody_65 rfl ?_
            refine s_aload_n C dX11_ofBody_66 rfl ?_
            refine s_cast C (t := 9) (by decide) wcl_X11_68 dX11_ofBody_67 hf (fun hf => ?_)
            refine s_iload_n C dX11_ofBody_70 rfl ?_
            refine s_callV (rvf := fun x => some (.int x)) (st := []) (fr := 1) (lo := 22) (mc := 0) (ms := 0) C [11] wc_X11_ofThing wml_X11_169 wim_X11_ofThing wsl_11_X11_ofThing dX11_ofBody_71 (As := [.inr (.inr v3), .inl a2]) rfl hf (fun x h' hF => c_X11_ofThing _ _ _ _ _ _ (x, h') hF) rfl (Nat.le_of_ble_eq_true rfl) (room_ok hX (Nat.le_of_ble_eq_true rfl) (Nat.le_of_ble_eq_true rfl)) (cell_ok hX (Nat.le_of_ble_eq_true rfl) (Nat.le_of_ble_eq_true rfl)) (fun v8 h7 hf => ?_)
            exact s_ireturn C E dX11_ofBody_74 hf (Nat.le_of_ble_eq_true rfl) (Nat.le_of_ble_eq_true rfl)
        · refine s_aload_n C dX11_ofBody_49 rfl ?_
          refine s_cast C (t := 1) (by decide) wcl_X11_118 dX11_ofBody_50 hf (fun hf => ?_)
          refine s_iload_n C dX11_ofBody_53 rfl ?_
          refine s_callS (rvf := fun x => some (.int x)) (st := []) (fr := 1) (lo := 20) (mc := 0) (ms := 0) C wc_X11_ofBox wml_X11_165 wst_X11_ofBox dX11_ofBody_54 (As := [.inr (.inr v3), .inl a2]) rfl hf (fun x h' hF => c_X11_ofBox _ _ _ _ _ (x, h') hF) rfl (Nat.le_of_ble_eq_true rfl) (room_ok hX (Nat.le_of_ble_eq_true rfl) (Nat.le_of_ble_eq_true rfl)) (cell_ok hX (Nat.le_of_ble_eq_true rfl) (Nat.le_of_ble_eq_true rfl)) (fun v10 h9 hf => ?_)
          exact s_ireturn C E dX11_ofBody_57 hf (Nat.le_of_ble_eq_true rfl) (Nat.le_of_ble_eq_true rfl)
      · refine s_aload_n C dX11_ofBody_32 rfl ?_
        refine s_aload_n C dX11_ofBody_33 rfl ?_
        refine s_cast C (t := 2) (by decide) wcl_X11_85 dX11_ofBody_34 hf (fun hf => ?_)
        refine s_iload_n C dX11_ofBody_37 rfl ?_
        refine s_callV (rvf := fun x => some (.int x)) (st := []) (fr := 2) (lo := 46) (mc := 0) (ms := 0) C [11] wc_X11_ofFinder wml_X11_161 wim_X11_ofFinder wsl_11_X11_ofFinder dX11_ofBody_38 (As := [.inr (.inr v3), .inl a2]) rfl hf (fun x h' hF => c_X11_ofFinder _ _ _ _ _ _ (x, h') hF) rfl (Nat.le_of_ble_eq_true rfl) (room_ok hX (Nat.le_of_ble_eq_true rfl) (Nat.le_of_ble_eq_true rfl)) (cell_ok hX (Nat.le_of_ble_eq_true rfl) (Nat.le_of_ble_eq_true rfl)) (fun v12 h11 hf => ?_)
        exact s_ireturn C E dX11_ofBody_41 hf (Nat.le_of_ble_eq_true rfl) (Nat.le_of_ble_eq_true rfl)
    · refine s_aload_n C dX11_ofBody_20 rfl ?_
      refine s_getI C fl_X11_160 dX11_ofBody_21 hf (fun v13 hf => ?_)
      exact s_ireturn C E dX11_ofBody_24 hf (Nat.le_of_ble_eq_true rfl) (Nat.le_of_ble_eq_true rfl)
  · refine s_ldc C dX11_ofBody_13 wk_X11_60 ?_
    exact s_ireturn C E dX11_ofBody_15 hf (Nat.le_of_ble_eq_true rfl) (Nat.le_of_ble_eq_true rfl)
