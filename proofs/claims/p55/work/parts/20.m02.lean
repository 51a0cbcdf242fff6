/-- HillBoxes.ofBox(LHillBoxes$Box;I)I -/
noncomputable def f_X11_ofBox (a0 : Option Nat) (a1 : Int32) (h : AH) : Option (Int32 × AH) :=
  if a1 = 1 then
    fI h [1] a0 8 fun v1 =>
    some (v1, h)
  else
  if a1 = 2 then
    fI h [1] a0 9 fun v2 =>
    some (v2, h)
  else
  if a1 = 3 then
    fI h [1] a0 2 fun v3 =>
    some (v3, h)
  else
  if a1 = 4 then
    fI h [1] a0 11 fun v4 =>
    some (v4, h)
  else
  if a1 = 5 then
    rO h [1] a0 <| cl (f_X1_liesNow a0 h) fun v6 h5 =>
    some (v6, h5)
  else
  if a1 = 6 then
    fI h [1] a0 12 fun v7 =>
    some (v7, h)
  else
  if a1 = 7 then
    fI h [1] a0 13 fun v8 =>
    some (v8, h)
  else
    some ((-2000000000 : Int32), h)
set_option maxRecDepth 100000 in
set_option maxHeartbeats 4000000 in
theorem c_X11_ofBox (l : Launch) (D : DT) (a0 : Option Nat) (a1 : Int32) (h : AH) (r : Int32 × AH) (hf : f_X11_ofBox a0 a1 h = some r) : CM l D yX11_ofBox cX11_ofBox 2 (some .int) 1 20 0 0 [.inr (.inr a0), .inl a1] h (some (.int r.1)) r.2 := by
  refine CM.of (by decide) (Nat.le_of_ble_eq_true rfl) (fun X hl C hD hX hnm E => ?_)
  subst hl
  subst hD
  have C : CX X RX11 cX11_ofBox 2 := C
  show WW X h 0 0 0 [some (rB (xD X).1 a0), some (.int a1)] []
  unfold f_X11_ofBox at hf
  refine s_iload_n C dX11_ofBox_0 rfl ?_
  refine s_ite hf (fun e hf => ?_) (fun n0 hf => ?_)
  · refine s_tsw1 (tgt := 44) C dX11_ofBox_1 e (by decide) (by decide) rfl (by decide) ?_
    refine s_aload_n C dX11_ofBox_44 rfl ?_
    refine s_getI C fl_X11_274 dX11_ofBox_45 hf (fun v1 hf => ?_)
    exact s_ireturn C E dX11_ofBox_48 hf (Nat.le_of_ble_eq_true rfl) (Nat.le_of_ble_eq_true rfl)
  refine s_ite hf (fun e hf => ?_) (fun n1 hf => ?_)
  · refine s_tsw1 (tgt := 49) C dX11_ofBox_1 e (by decide) (by decide) rfl (by decide) ?_
    refine s_aload_n C dX11_ofBox_49 rfl ?_
    refine s_getI C fl_X11_228 dX11_ofBox_50 hf (fun v2 hf => ?_)
    exact s_ireturn C E dX11_ofBox_53 hf (Nat.le_of_ble_eq_true rfl) (Nat.le_of_ble_eq_true rfl)
  refine s_ite hf (fun e hf => ?_) (fun n2 hf => ?_)
  · refine s_tsw1 (tgt := 54) C dX11_ofBox_1 e (by decide) (by decide) rfl (by decide) ?_
    refine s_aload_n C dX11_ofBox_54 rfl ?_
    refine s_getI C fl_X11_505 dX11_ofBox_55 hf (fun v3 hf => ?_)
    exact s_ireturn C E dX11_ofBox_58 hf (Nat.le_of_ble_eq_true rfl) (Nat.le_of_ble_eq_true rfl)
  refine s_ite hf (fun e hf => ?_) (fun n3 hf => ?_)
  · refine s_tsw1 (tgt := 59) C dX11_ofBox_1 e (by decide) (by decide) rfl (by decide) ?_
    refine s_aload_n C dX11_ofBox_59 rfl ?_
    refine s_getI C fl_X11_153 dX11_ofBox_60 hf (fun v4 hf => ?_)
    exact s_ireturn C E dX11_ofBox_63 hf (Nat.le_of_ble_eq_true rfl) (Nat.le_of_ble_eq_true rfl)
  refine s_ite hf (fun e hf => ?_) (fun n4 hf => ?_)
  · refine s_tsw1 (tgt := 64) C dX11_ofBox_1 e (by decide) (by decide) rfl (by decide) ?_
    refine s_aload_n C dX11_ofBox_64 rfl ?_
    refine s_callV (rvf := fun x => some (.int x)) (st := []) (fr := 0) (lo := 0) (mc := 0) (ms := 0) C [1] wc_X1_liesNow wml_X11_508 wim_X1_liesNow wsl_1_X1_liesNow dX11_ofBox_65 (As := []) rfl hf (fun x h' hF => c_X1_liesNow _ _ _ _ (x, h') hF) rfl (Nat.le_of_ble_eq_true rfl) (room_ok hX (Nat.le_of_ble_eq_true rfl) (Nat.le_of_ble_eq_true rfl)) (cell_ok hX (Nat.le_of_ble_eq_true rfl) (Nat.le_of_ble_eq_true rfl)) (fun v6 h5 hf => ?_)
    exact s_ireturn C E dX11_ofBox_68 hf (Nat.le_of_ble_eq_true rfl) (Nat.le_of_ble_eq_true rfl)
  refine s_ite hf (fun e hf => ?_) (fun n5 hf => ?_)
  · refine s_tsw1 (tgt := 69) C dX11_ofBox_1 e (by decide) (by decide) rfl (by decide) ?_
    refine s_aload_n C dX11_ofBox_69 rfl ?_
    refine s_getI C fl_X11_410 dX11_ofBox_70 hf (fun v7 hf => ?_)
    exact s_ireturn C E dX11_ofBox_73 hf (Nat.le_of_ble_eq_true rfl) (Nat.le_of_ble_eq_true rfl)
  refine s_ite hf (fun e hf => ?_) (fun n6 hf => ?_)
  · refine s_tsw1 (tgt := 74) C dX11_ofBox_1 e (by decide) (by decide) rfl (by decide) ?_
    refine s_aload_n C dX11_ofBox_74 rfl ?_
    refine s_getI C fl_X11_322 dX11_ofBox_75 hf (fun v8 hf => ?_)
    exact s_ireturn C E dX11_ofBox_78 hf (Nat.le_of_ble_eq_true rfl) (Nat.le_of_ble_eq_true rfl)
  refine s_tswD (tgt := 79) C dX11_ofBox_1 (by have n0x := n32 (i := 1) n0 rfl; have n1x := n32 (i := 2) n1 rfl; have n2x := n32 (i := 3) n2 rfl; have n3x := n32 (i := 4) n3 rfl; have n4x := n32 (i := 5) n4 rfl; have n5x := n32 (i := 6) n5 rfl; have n6x := n32 (i := 7) n6 rfl; omega) (by decide) ?_
  refine s_ldc C dX11_ofBox_79 wk_X11_60 ?_
  exact s_ireturn C E dX11_ofBox_81 hf (Nat.le_of_ble_eq_true rfl) (Nat.le_of_ble_eq_true rfl)
/-- HillBoxes.ofFinder(LHillBoxes$Finder;I)I -/
noncomputable def f_X11_ofFinder (o : Option Nat) (a1 : Option Nat) (a2 : Int32) (h : AH) : Option (Int32 × AH) :=
  if a2 = 1 then
    fI h [2] a1 2 fun v1 =>
    some (v1, h)
  else
  if a2 = 2 then
    fI h [2] a1 3 fun v2 =>
    some (v2, h)
  else
  if a2 = 3 then
    fI h [2] a1 4 fun v3 =>
    some (v3, h)
  else
  if a2 = 4 then
    fR h [11] o 0 fun v4 =>
    fI h [2] a1 0 fun v5 =>
    rO h [3] v4 <| cl (f_X3_ownOf v4 v5 h) fun v7 h6 =>
    some (v7, h6)
  else
    some ((-2000000000 : Int32), h)
set_option maxRecDepth 100000 in
set_option maxHeartbeats 4000000 in
theorem c_X11_ofFinder (l : Launch) (D : DT) (o : Option Nat) (a1 : Option Nat) (a2 : Int32) (h : AH) (r : Int32 × AH) (hf : f_X11_ofFinder o a1 a2 h = some r) : CM l D yX11_ofFinder cX11_ofFinder 3 (some .int) 2 46 0 0 [.inr (.inr o), .inr (.inr a1), .inl a2] h (some (.int r.1)) r.2 := by
  refine CM.of (by decide) (Nat.le_of_ble_eq_true rfl) (fun X hl C hD hX hnm E => ?_)
  subst hl
  subst hD
  have C : CX X RX11 cX11_ofFinder 3 := C
  show WW X h 0 0 0 [some (rB (xD X).1 o), some (rB (xD X).1 a1), some (.int a2)] []
  unfold f_X11_ofFinder at hf
  refine s_iload_n C dX11_ofFinder_0 rfl ?_
  refine s_ite hf (fun e hf => ?_) (fun n0 hf => ?_)
  · refine s_tsw1 (tgt := 32) C dX11_ofFinder_1 e (by decide) (by decide) rfl (by decide) ?_
    refine s_aload_n C dX11_ofFinder_32 rfl ?_
    refine s_getI C fl_X11_496 dX11_ofFinder_33 hf (fun v1 hf => ?_)
    exact s_ireturn C E dX11_ofFinder_36 hf (Nat.le_of_ble_eq_true rfl) (Nat.le_of_ble_eq_true rfl)
  refine s_ite hf (fun e hf => ?_) (fun n1 hf => ?_)
  · refine s_tsw1 (tgt := 37) C dX11_ofFinder_1 e (by decide) (by decide) rfl (by decide) ?_
    refine s_aload_n C dX11_ofFinder_37 rfl ?_
    refine s_getI C fl_X11_499 dX11_ofFinder_38 hf (fun v2 hf => ?_)
    exact s_ireturn C E dX11_ofFinder_41 hf (Nat.le_of_ble_eq_true rfl) (Nat.le_of_ble_eq_true rfl)
  refine s_ite hf (fun e hf => ?_) (fun n2 hf => ?_)
  · refine s_tsw1 (tgt := 42) C dX11_ofFinder_1 e (by decide) (by decide) rfl (by decide) ?_
    refine s_aload_n C dX11_ofFinder_42 rfl ?_
    refine s_getI C fl_X11_97 dX11_ofFinder_43 hf (fun v3 hf => ?_)
    exact s_ireturn C E dX11_ofFinder_46 hf (Nat.le_of_ble_eq_true rfl) (Nat.le_of_ble_eq_true rfl)
  refine s_ite hf (fun e hf => ?_) (fun n3 hf => ?_)
  · refine s_tsw1 (tgt := 47) C dX11_ofFinder_1 e (by decide) (by decide) rfl (by decide) ?_
    refine s_aload_n C dX11_ofFinder_47 rfl ?_
    refine s_getR C fl_X11_10 dX11_ofFinder_48 hf (fun v4 hf => ?_)
    refine s_aload_n C dX11_ofFinder_51 rfl ?_
    refine s_getI C fl_X11_120 dX11_ofFinder_52 hf (fun v5 hf => ?_)
    refine s_callV (rvf := fun x => some (.int x)) (st := []) (fr := 1) (lo := 22) (mc := 0) (ms := 0) C [3] wc_X3_ownOf wml_X11_502 wim_X3_ownOf wsl_3_X3_ownOf dX11_ofFinder_55 (As := [.inl v5]) rfl hf (fun x h' hF => c_X3_ownOf _ _ _ _ _ (x, h') hF) rfl (Nat.le_of_ble_eq_true rfl) (room_ok hX (Nat.le_of_ble_eq_true rfl) (Nat.le_of_ble_eq_true rfl)) (cell_ok hX (Nat.le_of_ble_eq_true rfl) (Nat.le_of_ble_eq_true rfl)) (fun v7 h6 hf => ?_)
    exact s_ireturn C E dX11_ofFinder_58 hf (Nat.le_of_ble_eq_true rfl) (Nat.le_of_ble_eq_true rfl)
  refine s_tswD (tgt := 59) C dX11_ofFinder_1 (by have n0x := n32 (i := 1) n0 rfl; have n1x := n32 (i := 2) n1 rfl; have n2x := n32 (i := 3) n2 rfl; have n3x := n32 (i := 4) n3 rfl; omega) (by decide) ?_
  refine s_ldc C dX11_ofFinder_59 wk_X11_60 ?_
  exact s_ireturn C E dX11_ofFinder_61 hf (Nat.le_of_ble_eq_true rfl) (Nat.le_of_ble_eq_true rfl)
/-- HillBoxes$Logs.whereAfter(LHillBoxes$Thing;I)I -/
noncomputable def f_X4_whereAfter (o : Option Nat) (a1 : Option Nat) (a2 : Int32) (h : AH) : Option (Int32 × AH) :=
  jn (
    some ((-1 : Int32), h)) fun j12 =>
  if a2 < 0 then
    j12
  else
    fI h [9] a1 4 fun v1 =>
    if a2 < v1 then
      fR h [9] a1 3 fun v2 =>
      aI h 23 v2 a2 fun v3 =>
      jn (fun (x4 : Int32) =>
        some (x4, h)) fun j48 =>
      if v3 = 0 then
        fR h [4] o 0 fun v5 =>
        fR h [9] a1 2 fun v6 =>
        aI h 20 v6 a2 fun v7 =>
        aI h 20 v5 v7 fun v8 =>
        j48 v8
      else
        fR h [4] o 4 fun v9 =>
        fR h [9] a1 2 fun v10 =>
        aI h 20 v10 a2 fun v11 =>
        aI h 20 v9 v11 fun v12 =>
        j48 v12
    else
      j12
set_option maxRecDepth 100000 in
set_option maxHeartbeats 4000000 in
theorem c_X4_whereAfter (l : Launch) (D : DT) (o : Option Nat) (a1 : Option Nat) (a2 : Int32) (h : AH) (r : Int32 × AH) (hf : f_X4_whereAfter o a1 a2 h = some r) : CM l D yX4_whereAfter cX4_whereAfter 3 (some .int) 0 0 0 0 [.inr (.inr o), .inr (.inr a1), .inl a2] h (some (.int r.1)) r.2 := by
  refine CM.of (by decide) (Nat.le_of_ble_eq_true rfl) (fun X hl C hD hX hnm E => ?_)
  subst hl
  subst hD
  have C : CX X RX4 cX4_whereAfter 3 := C
  show WW X h 0 0 0 [some (rB (xD X).1 o), some (rB (xD X).1 a1), some (.int a2)] []
  unfold f_X4_whereAfter at hf
  refine s_iload_n C dX4_whereAfter_0 rfl ?_
  refine s_jn hf (fun j12 e12 hf => ?_)
  have k12 : j12  = some r → WW X h 0 0 12 [none, none, none] [] := by
    intro  hf
    rw [e12] at hf
    refine s_iconst C dX4_whereAfter_12 (v := (-1 : Int32)) (by decide) ?_
    exact s_ireturn C E dX4_whereAfter_13 hf (Nat.le_of_ble_eq_true rfl) (Nat.le_of_ble_eq_true rfl)
  refine s_if_lt (tgt := 12) C dX4_whereAfter_1 (by decide) hf (fun hf => ?_) (fun hf => ?_)
  · refine s_weak (lv' := [none, none, none]) trivial ?_
    exact k12 hf
  · refine s_iload_n C dX4_whereAfter_4 rfl ?_
    refine s_aload_n C dX4_whereAfter_5 rfl ?_
    refine s_getI C fl_X4_130 dX4_whereAfter_6 hf (fun v1 hf => ?_)
    refine s_icmp_lt (tgt := 14) C dX4_whereAfter_9 (by decide) hf (fun hf => ?_) (fun hf => ?_)
    · refine s_aload_n C dX4_whereAfter_14 rfl ?_
      refine s_getR C fl_X4_135 dX4_whereAfter_15 hf (fun v2 hf => ?_)
      refine s_iload_n C dX4_whereAfter_18 rfl ?_
      refine s_zaload C dX4_whereAfter_19 hf (fun v3 hf => ?_)
      refine s_jn hf (fun j48 e48 hf => ?_)
      have k48 : ∀ (x4 : Int32), j48 x4 = some r → WW X h 0 0 48 [none, none, none] [.int x4] := by
        intro x4 hf
        rw [e48] at hf
        exact s_ireturn C E dX4_whereAfter_48 hf (Nat.le_of_ble_eq_true rfl) (Nat.le_of_ble_eq_true rfl)
      refine s_if_eq (tgt := 37) C dX4_whereAfter_20 (by decide) hf (fun hf => ?_) (fun hf => ?_)
      · refine s_aload_n C dX4_whereAfter_37 rfl ?_
        refine s_getR C fl_X4_9 dX4_whereAfter_38 hf (fun v5 hf => ?_)
        refine s_aload_n C dX4_whereAfter_41 rfl ?_
        refine s_getR C fl_X4_138 dX4_whereAfter_42 hf (fun v6 hf => ?_)
        refine s_iload_n C dX4_whereAfter_45 rfl ?_
        refine s_iaload C dX4_whereAfter_46 hf (fun v7 hf => ?_)
        refine s_iaload C dX4_whereAfter_47 hf (fun v8 hf => ?_)
        refine s_weak (lv' := [none, none, none]) trivial ?_
        exact k48 _ hf
      · refine s_aload_n C dX4_whereAfter_23 rfl ?_
        refine s_getR C fl_X4_22 dX4_whereAfter_24 hf (fun v9 hf => ?_)
        refine s_aload_n C dX4_whereAfter_27 rfl ?_
        refine s_getR C fl_X4_138 dX4_whereAfter_28 hf (fun v10 hf => ?_)
        refine s_iload_n C dX4_whereAfter_31 rfl ?_
        refine s_iaload C dX4_whereAfter_32 hf (fun v11 hf => ?_)
        refine s_iaload C dX4_whereAfter_33 hf (fun v12 hf => ?_)
        refine s_goto (tgt := 48) C dX4_whereAfter_34 (by decide) ?_
        refine s_weak (lv' := [none, none, none]) trivial ?_
        exact k48 _ hf
    · refine s_weak (lv' := [none, none, none]) trivial ?_
      exact k12 hf
/-- HillBoxes.ofThing(LHillBoxes$Thing;I)I -/
noncomputable def f_X11_ofThing (o : Option Nat) (a1 : Option Nat) (a2 : Int32) (h : AH) : Option (Int32 × AH) :=
  if a2 = 1 then
    fR h [11] o 2 fun v1 =>
    fI h [9] a1 4 fun v2 =>
    rO h [4] v1 <| cl (f_X4_whereAfter v1 a1 (v2 - (1 : Int32)) h) fun v4 h3 =>
    some (v4, h3)
  else
  if a2 = 2 then
    fI h [9] a1 4 fun v5 =>
    some (v5, h)
  else
    some ((-2000000000 : Int32), h)
set_option maxRecDepth 100000 in
set_option maxHeartbeats 4000000 in
theorem c_X11_ofThing (l : Launch) (D : DT) (o : Option Nat) (a1 : Option Nat) (a2 : Int32) (h : AH) (r : Int32 × AH) (hf : f_X11_ofThing o a1 a2 h = some r) : CM l D yX11_ofThing cX11_ofThing 3 (some .int) 1 22 0 0 [.inr (.inr o), .inr (.inr a1), .inl a2] h (some (.int r.1)) r.2 := by
  refine CM.of (by decide) (Nat.le_of_ble_eq_true rfl) (fun X hl C hD hX hnm E => ?_)
  subst hl
  subst hD
  have C : CX X RX11 cX11_ofThing 3 := C
  show WW X h 0 0 0 [some (rB (xD X).1 o), some (rB (xD X).1 a1), some (.int a2)] []
  unfold f_X11_ofThing at hf
  refine s_iload_n C dX11_ofThing_0 rfl ?_
  refine s_ite hf (fun e hf => ?_) (fun n0 hf => ?_)
  · refine s_lsw1 (tgt := 28) C dX11_ofThing_1 (by decide) e rfl (by decide) ?_
    refine s_aload_n C dX11_ofThing_28 rfl ?_
    refine s_getR C fl_X11_30 dX11_ofThing_29 hf (fun v1 hf => ?_)
    refine s_aload_n C dX11_ofThing_32 rfl ?_
    refine s_aload_n C dX11_ofThing_33 rfl ?_
    refine s_getI C fl_X11_344 dX11_ofThing_34 hf (fun v2 hf => ?_)
    refine s_iconst C dX11_ofThing_37 (v := (1 : Int32)) (by decide) ?_
    refine s_isub C dX11_ofThing_38 ?_
    refine s_callV (rvf := fun x => some (.int x)) (st := []) (fr := 0) (lo := 0) (mc := 0) (ms := 0) C [4] wc_X4_whereAfter wml_X11_511 wim_X4_whereAfter wsl_4_X4_whereAfter dX11_ofThing_39 (As := [.inr (.inr a1), .inl (v2 - (1 : Int32))]) rfl hf (fun x h' hF => c_X4_whereAfter _ _ _ _ _ _ (x, h') hF) rfl (Nat.le_of_ble_eq_true rfl) (room_ok hX (Nat.le_of_ble_eq_true rfl) (Nat.le_of_ble_eq_true rfl)) (cell_ok hX (Nat.le_of_ble_eq_true rfl) (Nat.le_of_ble_eq_true rfl)) (fun v4 h3 hf => ?_)
    exact s_ireturn C E dX11_ofThing_42 hf (Nat.le_of_ble_eq_true rfl) (Nat.le_of_ble_eq_true rfl)
  refine s_ite hf (fun e hf => ?_) (fun n1 hf => ?_)
  · refine s_lsw1 (tgt := 43) C dX11_ofThing_1 (by decide) e rfl (by decide) ?_
    refine s_aload_n C dX11_ofThing_43 rfl ?_
    refine s_getI C fl_X11_344 dX11_ofThing_44 hf (fun v5 hf => ?_)
    exact s_ireturn C E dX11_ofThing_47 hf (Nat.le_of_ble_eq_true rfl) (Nat.le_of_ble_eq_true rfl)
  refine s_lswitch (tgt := 48) C dX11_ofThing_1 (by decide) (by show Op.lookupswitch.offset [(1, 27), (2, 42)] _ _ = _; simp only [Op.lookupswitch.offset_cons, Op.lookupswitch.offset_nil]; rw [if_neg (fun z => n32 (i := 1) n0 rfl z.symm), if_neg (fun z => n32 (i := 2) n1 rfl z.symm)]) (by decide) ?_
  refine s_ldc C dX11_ofThing_48 wk_X11_60 ?_
  exact s_ireturn C E dX11_ofThing_50 hf (Nat.le_of_ble_eq_true rfl) (Nat.le_of_ble_eq_true rfl)
/-- HillBoxes$Hills.bodyAt(I)LHillBoxes$Body; -/
noncomputable def f_X3_bodyAt (o : Option Nat) (a1 : Int32) (h : AH) : Option (Option Nat × AH) :=
  jn (fun (x1 : Option Nat) =>
    some (x1, h)) fun j22 =>
  jn (
    j22 none) fun j12 =>
  if a1 < 0 then
    j12
  else
    fI h [3] o 3 fun v2 =>
    if a1 < v2 then
      fR h [3] o 2 fun v3 =>
      aR h 25 v3 a1 fun v4 =>
      j22 v4
    else
      j12
set_option maxRecDepth 100000 in
set_option maxHeartbeats 4000000 in
theorem c_X3_bodyAt (l : Launch) (D : DT) (o : Option Nat) (a1 : Int32) (h : AH) (r : Option Nat × AH) (hf : f_X3_bodyAt o a1 h = some r) : CM l D yX3_bodyAt cX3_bodyAt 2 (some (.object "HillBoxes$Body")) 0 0 0 0 [.inr (.inr o), .inl a1] h (some (rB D.1 r.1)) r.2 := by
  refine CM.of (by decide) (Nat.le_of_ble_eq_true rfl) (fun X hl C hD hX hnm E => ?_)
  subst hl
  subst hD
  have C : CX X RX3 cX3_bodyAt 2 := C
  show WW X h 0 0 0 [some (rB (xD X).1 o), some (.int a1)] []
  unfold f_X3_bodyAt at hf
  refine s_iload_n C dX3_bodyAt_0 rfl ?_
  refine s_jn hf (fun j22 e22 hf => ?_)
  have k22 : ∀ (x1 : Option Nat), j22 x1 = some r → WW X h 0 0 22 [none, none] [rB (xD X).1 x1] := by
    intro x1 hf
    rw [e22] at hf
    exact s_areturn C E dX3_bodyAt_22 hf (Nat.le_of_ble_eq_true rfl) (Nat.le_of_ble_eq_true rfl)
  refine s_jn hf (fun j12 e12 hf => ?_)
  have k12 : j12  = some r → WW X h 0 0 12 [none, none] [] := by
    intro  hf
    rw [e12] at hf
    refine s_null C dX3_bodyAt_12 ?_
    refine s_goto (tgt := 22) C dX3_bodyAt_13 (by decide) ?_
    exact k22 _ hf
  refine s_if_lt (tgt := 12) C dX3_bodyAt_1 (by decide) hf (fun hf => ?_) (fun hf => ?_)
  · refine s_weak (lv' := [none, none]) trivial ?_
    exact k12 hf
  · refine s_iload_n C dX3_bodyAt_4 rfl ?_
    refine s_aload_n C dX3_bodyAt_5 rfl ?_
    refine s_getI C fl_X3_39 dX3_bodyAt_6 hf (fun v2 hf => ?_)
    refine s_icmp_lt (tgt := 16) C dX3_bodyAt_9 (by decide) hf (fun hf => ?_) (fun hf => ?_)
    · refine s_aload_n C dX3_bodyAt_16 rfl ?_
      refine s_getR C fl_X3_17 dX3_bodyAt_17 hf (fun v3 hf => ?_)
      refine s_iload_n C dX3_bodyAt_20 rfl ?_
      refine s_aaload C dX3_bodyAt_21 (by decide) hf (fun v4 hf => ?_)
      refine s_weak (lv' := [none, none]) trivial ?_
      exact k22 _ hf
    · refine s_weak (lv' := [none, none]) trivial ?_
      exact k12 hf
/-- HillBoxes.ofBody(II)I -/
noncomputable def f_X11_ofBody (o : Option Nat) (a1 : Int32) (a2 : Int32) (h : AH) : Option (Int32 × AH) :=
  fR h [11] o 0 fun v1 =>
  rO h [3] v1 <| cl (f_X3_bodyAt v1 a1 h) fun v3 h2 =>
  if v3 = none then
    some ((-2000000000 : Int32), h2)
  else
    if a2 = 0 then
      fI h2 [0, 1, 2, 9] v3 1 fun v13 =>
      some (v13, h2)
    else
      iO h2 [2] v3 fun v4 =>
      if v4 = 0 then
        iO h2 [1] v3 fun v5 =>
        if v5 = 0 then
          iO h2 [9] v3 fun v6 =>
          if v6 = 0 then
            some ((-2000000000 : Int32), h2)
          else
            cO h2 [9] v3 <|
            rO h2 [11] o <| cl (f_X11_ofThing o v3 a2 h2) fun v8 h7 =>
            some (v8, h7)
        else
          cO h2 [1] v3 <|
          cl (f_X11_ofBox v3 a2 h2) fun v10 h9 =>
          some (v10, h9)
      else
        cO h2 [2] v3 <|
        rO h2 [11] o <| cl (f_X11_ofFinder o v3 a2 h2) fun v12 h11 =>
        some (v12, h11)
set_option maxRecDepth 100000 in
set_option maxHeartbeats 4000000 in
theorem c_X11_ofBody (l : Launch) (D : DT) (o : Option Nat) (a1 : Int32) (a2 : Int32) (h : AH) (r : Int32 × AH) (hf : f_X11_ofBody o a1 a2 h = some r) : CM l D yX11_ofBody cX11_ofBody 4 (some .int) 3 68 0 0 [.inr (.inr o), .inl a1, .inl a2] h (some (.int r.1)) r.2 := by
  refine CM.of (by decide) (Nat.le_of_ble_eq_true rfl) (fun X hl C hD hX hnm E => ?_)
  subst hl
  subst hD
  have C : CX X RX11 cX11_ofBody 4 := C
  show WW X h 0 0 0 [some (rB (xD X).1 o), some (.int a1), some (.int a2), none] []
  unfold f_X11_ofBody at hf
  refine s_aload_n C dX11_ofBody_0 rfl ?_
  refine s_getR C fl_X11_10 dX11_ofBody_1 hf (fun v1 hf => ?_)
  refine s_iload_n C dX11_ofBody_4 rfl ?_
  refine s_callV (rvf := fun x => some (rB (xD X).1 x)) (st := []) (fr := 0) (lo := 0) (mc := 0) (ms := 0) C [3] wc_X3_bodyAt wml_X11_156 wim_X3_bodyAt wsl_3_X3_bodyAt dX11_ofBody_5 (As := [.inl a1]) rfl hf (fun x h' hF => c_X3_bodyAt _ _ _ _ _ (x, h') hF) rfl (Nat.le_of_ble_eq_true rfl) (room_ok hX (Nat.le_of_ble_eq_true rfl) (Nat.le_of_ble_eq_true rfl)) (cell_ok hX (Nat.le_of_ble_eq_true rfl) (Nat.le_of_ble_eq_true rfl)) (fun v3 h2 hf => ?_)
  refine s_astore_n C dX11_ofBody_8 (by decide) (nc_i rfl) (lv' := [some (rB (xD X).1 o), some (.int a1), some (.int a2), some (rB (xD X).1 v3)]) rfl ?_
  refine s_aload_n C dX11_ofBody_9 rfl ?_
  refine s_ifnonnull (tgt := 16) C dX11_ofBody_10 (by decide) hf (fun hf => ?_) (fun hf => ?_)
  · refine s_iload_n C dX11_ofBody_16 rfl ?_
    refine s_if_ne (tgt := 25) C dX11_ofBody_17 (by decide) hf (fun hf => ?_) (fun hf => ?_)
    · refine s_aload_n C dX11_ofBody_25 rfl ?_
      refine s_instof C (t := 2) (by decide) wcl_X11_85 dX11_ofBody_26 hf (fun v4 hf => ?_)
      refine s_if_eq (tgt := 42) C dX11_ofBody_29 (by decide) hf (fun hf => ?_) (fun hf => ?_)
      · refine s_aload_n C dX11_ofBody_42 rfl ?_
        refine s_instof C (t := 1) (by decide) wcl_X11_118 dX11_ofBody_43 hf (fun v5 hf => ?_)
        refine s_if_eq (tgt := 58) C dX11_ofBody_46 (by decide) hf (fun hf => ?_) (fun hf => ?_)
        · refine s_aload_n C dX11_ofBody_58 rfl ?_
          refine s_instof C (t := 9) (by decide) wcl_X11_68 dX11_ofBody_59 hf (fun v6 hf => ?_)
          refine s_if_eq (tgt := 75) C dX11_ofBody_62 (by decide) hf (fun hf => ?_) (fun hf => ?_)
          · refine s_ldc C dX11_ofBody_75 wk_X11_60 ?_
            exact s_ireturn C E dX11_ofBody_77 hf (Nat.le_of_ble_eq_true rfl) (Nat.le_of_ble_eq_true rfl)
          · refine s_aload_n C dX11_ofBody_65 rfl ?_
            refine s_aload_n C dX11_ofBody_66 rfl ?_
            refine s_cast C (t := 9) (by decide) wcl_X11_68 dX11_ofBody_67 hf (fun hf => ?_)
            refine s_iload_n C dX11_ofBody_70 rfl ?_
            refine s_callV (rvf := fun x => some (.int x)) (st := []) (fr := 1) (lo := 22) (mc := 0) (ms := 0) C [11] wc_X11_ofThing wml_X11_169 wim_X11_ofThing wsl_11_X11_ofThing dX11_ofBody_71 (As := [.inr (.inr v3), .inl a2]) rfl hf (fun x h' hF => c_X11_ofThing _ _ _ _ _ _ (x, h') hF) rfl (Nat.le_of_ble_eq_true rfl) (room_ok hX (Nat.le_of_ble_eq_true rfl) (Nat.le_of_ble_eq_true rfl)) (cell_ok hX (Nat.le_of_ble_eq_true rfl) (Nat.le_of_ble_eq_true rfl)) (fun v8 h7 hf => ?_)
            exact s_ireturn C E dX11_ofBody_74 hf (Nat.le_of_ble_eq_true rfl) (Nat.le_of_ble_eq_true rfl)
        · refine s_aload_n C dX11_ofBody_49 rfl ?_
          refine s_cast C (t := 1) (by decide) wcl_X11_118 dX11_ofBody_50 hf (fun hf => ?_)
          refine s_iload_n C dX11_ofBody_53 rfl ?_
          refine s_callS (rvf := fun x => some (.int x)) (st := []) (fr := 1) (lo := 20) (mc := 0) (ms := 0) C wc_X11_ofBox wml_X11_165 wst_X11_ofBox dX11_ofBody_54 (As := [.inr (.inr v3), .inl a2]) rfl hf (fun x h' hF => c_X11_ofBox _ _ _ _ _ (x, h') hF) rfl (Nat.le_of_ble_eq_true rfl) (room_ok hX (Nat.le_of_ble_eq_true rfl) (Nat.le_of_ble_eq_true rfl)) (cell_ok hX (Nat.le_of_ble_eq_true rfl) (Nat.le_of_ble_eq_true rfl)) (fun v10 h9 hf => ?_)
          exact s_ireturn C E dX11_ofBody_57 hf (Nat.le_of_ble_eq_true rfl) (Nat.le_of_ble_eq_true rfl)
      · refine s_aload_n C dX11_ofBody_32 rfl ?_
        refine s_aload_n C dX11_ofBody_33 rfl ?_
        refine s_cast C (t := 2) (by decide) wcl_X11_85 dX11_ofBody_34 hf (fun hf => ?_)
        refine s_iload_n C dX11_ofBody_37 rfl ?_
        refine s_callV (rvf := fun x => some (.int x)) (st := []) (fr := 2) (lo := 46) (mc := 0) (ms := 0) C [11] wc_X11_ofFinder wml_X11_161 wim_X11_ofFinder wsl_11_X11_ofFinder dX11_ofBody_38 (As := [.inr (.inr v3), .inl a2]) rfl hf (fun x h' hF => c_X11_ofFinder _ _ _ _ _ _ (x, h') hF) rfl (Nat.le_of_ble_eq_true rfl) (room_ok hX (Nat.le_of_ble_eq_true rfl) (Nat.le_of_ble_eq_true rfl)) (cell_ok hX (Nat.le_of_ble_eq_true rfl) (Nat.le_of_ble_eq_true rfl)) (fun v12 h11 hf => ?_)
        exact s_ireturn C E dX11_ofBody_41 hf (Nat.le_of_ble_eq_true rfl) (Nat.le_of_ble_eq_true rfl)
    · refine s_aload_n C dX11_ofBody_20 rfl ?_
      refine s_getI C fl_X11_160 dX11_ofBody_21 hf (fun v13 hf => ?_)
      exact s_ireturn C E dX11_ofBody_24 hf (Nat.le_of_ble_eq_true rfl) (Nat.le_of_ble_eq_true rfl)
  · refine s_ldc C dX11_ofBody_13 wk_X11_60 ?_
    exact s_ireturn C E dX11_ofBody_15 hf (Nat.le_of_ble_eq_true rfl) (Nat.le_of_ble_eq_true rfl)
/-- HillBoxes.owner(II)I -/
noncomputable def f_X11_owner (o : Option Nat) (a1 : Int32) (a2 : Int32) (h : AH) : Option (Int32 × AH) :=
  cl (f_X11_isCell a1 h) fun v2 h1 =>
  jn (
    some ((-2000000000 : Int32), h1)) fun j18 =>
  if v2 = 0 then
    j18
  else
    if a2 < (-1 : Int32) then
      j18
    else
      if a2 < (10 : Int32) then
        fR h1 [11] o 0 fun v3 =>
        fR h1 [3] v3 1 fun v4 =>
        aI h1 20 v4 a1 fun v5 =>
        fR h1 [11] o 0 fun v6 =>
        fR h1 [3] v6 1 fun v7 =>
        bI h1 20 v7 a1 a2 fun h8 =>
        some (v5, h8)
      else
        j18
set_option maxRecDepth 100000 in
set_option maxHeartbeats 4000000 in
theorem c_X11_owner (l : Launch) (D : DT) (o : Option Nat) (a1 : Int32) (a2 : Int32) (h : AH) (r : Int32 × AH) (hf : f_X11_owner o a1 a2 h = some r) : CM l D yX11_owner cX11_owner 4 (some .int) 1 20 0 0 [.inr (.inr o), .inl a1, .inl a2] h (some (.int r.1)) r.2 := by
  refine CM.of (by decide) (Nat.le_of_ble_eq_true rfl) (fun X hl C hD hX hnm E => ?_)
  subst hl
  subst hD
  have C : CX X RX11 cX11_owner 4 := C
  show WW X h 0 0 0 [some (rB (xD X).1 o), some (.int a1), some (.int a2), none] []
  unfold f_X11_owner at hf
  refine s_iload_n C dX11_owner_0 rfl ?_
  refine s_callS (rvf := fun x => some (.int x)) (st := []) (fr := 0) (lo := 0) (mc := 0) (ms := 0) C wc_X11_isCell wml_X11_56 wst_X11_isCell dX11_owner_1 (As := [.inl a1]) rfl hf (fun x h' hF => c_X11_isCell _ _ _ _ (x, h') hF) rfl (Nat.le_of_ble_eq_true rfl) (room_ok hX (Nat.le_of_ble_eq_true rfl) (Nat.le_of_ble_eq_true rfl)) (cell_ok hX (Nat.le_of_ble_eq_true rfl) (Nat.le_of_ble_eq_true rfl)) (fun v2 h1 hf => ?_)
  refine s_jn hf (fun j18 e18 hf => ?_)
  have k18 : j18  = some r → WW X h1 0 0 18 [none, none, none, none] [] := by
    intro  hf
    rw [e18] at hf
    refine s_ldc C dX11_owner_18 wk_X11_60 ?_
    exact s_ireturn C E dX11_owner_20 hf (Nat.le_of_ble_eq_true rfl) (Nat.le_of_ble_eq_true rfl)
  refine s_if_eq (tgt := 18) C dX11_owner_4 (by decide) hf (fun hf => ?_) (fun hf => ?_)
  · refine s_weak (lv' := [none, none, none, none]) trivial ?_
    exact k18 hf
  · refine s_iload_n C dX11_owner_7 rfl ?_
    refine s_iconst C dX11_owner_8 (v := (-1 : Int32)) (by decide) ?_
    refine s_icmp_lt (tgt := 18) C dX11_owner_9 (by decide) hf (fun hf => ?_) (fun hf => ?_)
    · refine s_weak (lv' := [none, none, none, none]) trivial ?_
      exact k18 hf
    · refine s_iload_n C dX11_owner_12 rfl ?_
      refine s_bipush C dX11_owner_13 (v := (10 : Int32)) (by decide) ?_
      refine s_icmp_lt (tgt := 21) C dX11_owner_15 (by decide) hf (fun hf => ?_) (fun hf => ?_)
      · refine s_aload_n C dX11_owner_21 rfl ?_
        refine s_getR C fl_X11_10 dX11_owner_22 hf (fun v3 hf => ?_)
        refine s_getR C fl_X11_61 dX11_owner_25 hf (fun v4 hf => ?_)
        refine s_iload_n C dX11_owner_28 rfl ?_
        refine s_iaload C dX11_owner_29 hf (fun v5 hf => ?_)
        refine s_istore_n C dX11_owner_30 (by decide) (nc_i rfl) (lv' := [some (rB (xD X).1 o), some (.int a1), some (.int a2), some (.int v5)]) rfl ?_
        refine s_aload_n C dX11_owner_31 rfl ?_
        refine s_getR C fl_X11_10 dX11_owner_32 hf (fun v6 hf => ?_)
        refine s_getR C fl_X11_61 dX11_owner_35 hf (fun v7 hf => ?_)
        refine s_iload_n C dX11_owner_38 rfl ?_
        refine s_iload_n C dX11_owner_39 rfl ?_
        refine s_iastore C dX11_owner_40 hf (fun h8 hf => ?_)
        refine s_iload_n C dX11_owner_41 rfl ?_
        exact s_ireturn C E dX11_owner_42 hf (Nat.le_of_ble_eq_true rfl) (Nat.le_of_ble_eq_true rfl)
      · refine s_weak (lv' := [none, none, none, none]) trivial ?_
        exact k18 hf
/-- HillBoxes.isDay(I)Z -/
noncomputable def f_X11_isDay (a0 : Int32) (h : AH) : Option (Int32 × AH) :=
  jn (fun (x1 : Int32) =>
    rz x1 h) fun j16 =>
  jn (
    j16 (0 : Int32)) fun j15 =>
  if a0 < 0 then
    j15
  else
    if (999 : Int32) < a0 then
      j15
    else
      j16 (1 : Int32)
set_option maxRecDepth 100000 in
set_option maxHeartbeats 4000000 in
theorem c_X11_isDay (l : Launch) (D : DT) (a0 : Int32) (h : AH) (r : Int32 × AH) (hf : f_X11_isDay a0 h = some r) : CM l D yX11_isDay cX11_isDay 1 (some .boolean) 0 0 0 0 [.inl a0] h (some (.int r.1)) r.2 := by
  refine CM.of (by decide) (Nat.le_of_ble_eq_true rfl) (fun X hl C hD hX hnm E => ?_)
  subst hl
  subst hD
  have C : CX X RX11 cX11_isDay 1 := C
  show WW X h 0 0 0 [some (.int a0)] []
  unfold f_X11_isDay at hf
  refine s_iload_n C dX11_isDay_0 rfl ?_
  refine s_jn hf (fun j16 e16 hf => ?_)
  have k16 : ∀ (x1 : Int32), j16 x1 = some r → WW X h 0 0 16 [none] [.int x1] := by
    intro x1 hf
    rw [e16] at hf
    exact s_zreturn C E dX11_isDay_16 hf (Nat.le_of_ble_eq_true rfl) (Nat.le_of_ble_eq_true rfl)
  refine s_jn hf (fun j15 e15 hf => ?_)
  have k15 : j15  = some r → WW X h 0 0 15 [none] [] := by
    intro  hf
    rw [e15] at hf
    refine s_iconst C dX11_isDay_15 (v := (0 : Int32)) (by decide) ?_
    exact k16 _ hf
  refine s_if_lt (tgt := 15) C dX11_isDay_1 (by decide) hf (fun hf => ?_) (fun hf => ?_)
  · refine s_weak (lv' := [none]) trivial ?_
    exact k15 hf
  · refine s_iload_n C dX11_isDay_4 rfl ?_
    refine s_sipush C dX11_isDay_5 (v := (999 : Int32)) (by decide) ?_
    refine s_icmp_gt (tgt := 15) C dX11_isDay_8 (by decide) hf (fun hf => ?_) (fun hf => ?_)
    · refine s_weak (lv' := [none]) trivial ?_
      exact k15 hf
    · refine s_iconst C dX11_isDay_11 (v := (1 : Int32)) (by decide) ?_
      refine s_goto (tgt := 16) C dX11_isDay_12 (by decide) ?_
      refine s_weak (lv' := [none]) trivial ?_
      exact k16 _ hf
/-- HillBoxes.isUse(I)Z -/
noncomputable def f_X11_isUse (a0 : Int32) (h : AH) : Option (Int32 × AH) :=
  jn (fun (x1 : Int32) =>
    rz x1 h) fun j26 =>
  jn (
    j26 (1 : Int32)) fun j21 =>
  jn (
    jn (
      j26 (0 : Int32)) fun j25 =>
    if a0 < (10 : Int32) then
      j25
    else
      if (20 : Int32) ≤ a0 then
        j25
      else
        j21) fun j9 =>
  if a0 < 0 then
    j9
  else
    if a0 ≤ (4 : Int32) then
      j21
    else
      j9
set_option maxRecDepth 100000 in
set_option maxHeartbeats 4000000 in
theorem c_X11_isUse (l : Launch) (D : DT) (a0 : Int32) (h : AH) (r : Int32 × AH) (hf : f_X11_isUse a0 h = some r) : CM l D yX11_isUse cX11_isUse 1 (some .boolean) 0 0 0 0 [.inl a0] h (some (.int r.1)) r.2 := by
  refine CM.of (by decide) (Nat.le_of_ble_eq_true rfl) (fun X hl C hD hX hnm E => ?_)
  subst hl
  subst hD
  have C : CX X RX11 cX11_isUse 1 := C
  show WW X h 0 0 0 [some (.int a0)] []
  unfold f_X11_isUse at hf
  refine s_iload_n C dX11_isUse_0 rfl ?_
  refine s_jn hf (fun j26 e26 hf => ?_)
  have k26 : ∀ (x1 : Int32), j26 x1 = some r → WW X h 0 0 26 [none] [.int x1] := by
    intro x1 hf
    rw [e26] at hf
    exact s_zreturn C E dX11_isUse_26 hf (Nat.le_of_ble_eq_true rfl) (Nat.le_of_ble_eq_true rfl)
  refine s_jn hf (fun j21 e21 hf => ?_)
  have k21 : j21  = some r → WW X h 0 0 21 [none] [] := by
    intro  hf
    rw [e21] at hf
    refine s_iconst C dX11_isUse_21 (v := (1 : Int32)) (by decide) ?_
    refine s_goto (tgt := 26) C dX11_isUse_22 (by decide) ?_
    exact k26 _ hf
  refine s_jn hf (fun j9 e9 hf => ?_)
  have k9 : j9  = some r → WW X h 0 0 9 [some (.int a0)] [] := by
    intro  hf
    rw [e9] at hf
    refine s_iload_n C dX11_isUse_9 rfl ?_
    refine s_bipush C dX11_isUse_10 (v := (10 : Int32)) (by decide) ?_
    refine s_jn hf (fun j25 e25 hf => ?_)
    have k25 : j25  = some r → WW X h 0 0 25 [none] [] := by
      intro  hf
      rw [e25] at hf
      refine s_iconst C dX11_isUse_25 (v := (0 : Int32)) (by decide) ?_
      exact k26 _ hf
    refine s_icmp_lt (tgt := 25) C dX11_isUse_12 (by decide) hf (fun hf => ?_) (fun hf => ?_)
    · refine s_weak (lv' := [none]) trivial ?_
      exact k25 hf
    · refine s_iload_n C dX11_isUse_15 rfl ?_
      refine s_bipush C dX11_isUse_16 (v := (20 : Int32)) (by decide) ?_
      refine s_icmp_ge (tgt := 25) C dX11_isUse_18 (by decide) hf (fun hf => ?_) (fun hf => ?_)
      · refine s_weak (lv' := [none]) trivial ?_
        exact k25 hf
      · refine s_weak (lv' := [none]) trivial ?_
        exact k21 hf
  refine s_if_lt (tgt := 9) C dX11_isUse_1 (by decide) hf (fun hf => ?_) (fun hf => ?_)
  · exact k9 hf
  · refine s_iload_n C dX11_isUse_4 rfl ?_
    refine s_iconst C dX11_isUse_5 (v := (4 : Int32)) (by decide) ?_
    refine s_icmp_le (tgt := 21) C dX11_isUse_6 (by decide) hf (fun hf => ?_) (fun hf => ?_)
    · refine s_weak (lv' := [none]) trivial ?_
      exact k21 hf
    · exact k9 hf
/-- HillBoxes$Rules.isFull()Z -/
noncomputable def f_X6_isFull (o : Option Nat) (h : AH) : Option (Int32 × AH) :=
  fI h [6] o 1 fun v1 =>
  jn (fun (x2 : Int32) =>
    rz x2 h) fun j14 =>
  if v1 < (20 : Int32) then
    j14 (0 : Int32)
  else
    j14 (1 : Int32)
set_option maxRecDepth 100000 in
set_option maxHeartbeats 4000000 in
theorem c_X6_isFull (l : Launch) (D : DT) (o : Option Nat) (h : AH) (r : Int32 × AH) (hf : f_X6_isFull o h = some r) : CM l D yX6_isFull cX6_isFull 1 (some .boolean) 0 0 0 0 [.inr (.inr o)] h (some (.int r.1)) r.2 := by
  refine CM.of (by decide) (Nat.le_of_ble_eq_true rfl) (fun X hl C hD hX hnm E => ?_)
  subst hl
  subst hD
  have C : CX X RX6 cX6_isFull 1 := C
  show WW X h 0 0 0 [some (rB (xD X).1 o)] []
  unfold f_X6_isFull at hf
  refine s_aload_n C dX6_isFull_0 rfl ?_
  refine s_getI C fl_X6_45 dX6_isFull_1 hf (fun v1 hf => ?_)
  refine s_bipush C dX6_isFull_4 (v := (20 : Int32)) (by decide) ?_
  refine s_jn hf (fun j14 e14 hf => ?_)
  have k14 : ∀ (x2 : Int32), j14 x2 = some r → WW X h 0 0 14 [none] [.int x2] := by
    intro x2 hf
    rw [e14] at hf
    exact s_zreturn C E dX6_isFull_14 hf (Nat.le_of_ble_eq_true rfl) (Nat.le_of_ble_eq_true rfl)
  refine s_icmp_lt (tgt := 13) C dX6_isFull_6 (by decide) hf (fun hf => ?_) (fun hf => ?_)
  · refine s_iconst C dX6_isFull_13 (v := (0 : Int32)) (by decide) ?_
    refine s_weak (lv' := [none]) trivial ?_
    exact k14 _ hf
  · refine s_iconst C dX6_isFull_9 (v := (1 : Int32)) (by decide) ?_
    refine s_goto (tgt := 14) C dX6_isFull_10 (by decide) ?_
    refine s_weak (lv' := [none]) trivial ?_
    exact k14 _ hf
/-- HillBoxes$Tape.advance()V -/
noncomputable def f_X8_advance (o : Option Nat) (h : AH) : Option (Unit × AH) :=
  fI h [8] o 7 fun v1 =>
  jn (fun (h2 : AH) =>
    some ((), h2)) fun j40 =>
  if (160 : Int32) ≤ v1 then
    j40 h
  else
    fI h [8] o 6 fun v3 =>
    if v3 = 0 then
      j40 h
    else
      fI h [8] o 7 fun v4 =>
      pI h [8] o 7 (v4 + (1 : Int32)) fun h5 =>
      fR h5 [8] o 2 fun v6 =>
      fI h5 [8] o 7 fun v7 =>
      aI h5 20 v6 v7 fun v8 =>
      pI h5 [8] o 6 v8 fun h9 =>
      j40 h9
set_option maxRecDepth 100000 in
set_option maxHeartbeats 4000000 in
theorem c_X8_advance (l : Launch) (D : DT) (o : Option Nat) (h : AH) (r : Unit × AH) (hf : f_X8_advance o h = some r) : CM l D yX8_advance cX8_advance 1 none 0 0 0 0 [.inr (.inr o)] h none r.2 := by
  refine CM.of (by decide) (Nat.le_of_ble_eq_true rfl) (fun X hl C hD hX hnm E => ?_)
  subst hl
  subst hD
  have C : CX X RX8 cX8_advance 1 := C
  show WW X h 0 0 0 [some (rB (xD X).1 o)] []
  unfold f_X8_advance at hf
  refine s_aload_n C dX8_advance_0 rfl ?_
  refine s_getI C fl_X8_44 dX8_advance_1 hf (fun v1 hf => ?_)
  refine s_sipush C dX8_advance_4 (v := (160 : Int32)) (by decide) ?_
  refine s_jn hf (fun j40 e40 hf => ?_)
  have k40 : ∀ (h2 : AH), j40 h2 = some r → WW X h2 0 0 40 [none] [] := by
    intro h2 hf
    rw [e40] at hf
    exact s_return C E dX8_advance_40 hf (Nat.le_of_ble_eq_true rfl) (Nat.le_of_ble_eq_true rfl)
  refine s_icmp_ge (tgt := 40) C dX8_advance_7 (by decide) hf (fun hf => ?_) (fun hf => ?_)
  · refine s_weak (lv' := [none]) trivial ?_
    exact k40 _ hf
  · refine s_aload_n C dX8_advance_10 rfl ?_
    refine s_getI C fl_X8_47 dX8_advance_11 hf (fun v3 hf => ?_)
    refine s_if_eq (tgt := 40) C dX8_advance_14 (by decide) hf (fun hf => ?_) (fun hf => ?_)
    · refine s_weak (lv' := [none]) trivial ?_
      exact k40 _ hf
    · refine s_aload_n C dX8_advance_17 rfl ?_
      refine s_dup C dX8_advance_18 c1_r ?_
      refine s_getI C fl_X8_44 dX8_advance_19 hf (fun v4 hf => ?_)
      refine s_iconst C dX8_advance_22 (v := (1 : Int32)) (by decide) ?_
      refine s_iadd C dX8_advance_23 ?_
      refine s_putI C fl_X8_44 (by decide) dX8_advance_24 hf (fun h5 hf => ?_)
      refine s_aload_n C dX8_advance_27 rfl ?_
      refine s_aload_n C dX8_advance_28 rfl ?_
      refine s_getR C fl_X8_13 dX8_advance_29 hf (fun v6 hf => ?_)
      refine s_aload_n C dX8_advance_32 rfl ?_
      refine s_getI C fl_X8_44 dX8_advance_33 hf (fun v7 hf => ?_)
      refine s_iaload C dX8_advance_36 hf (fun v8 hf => ?_)
      refine s_putI C fl_X8_47 (by decide) dX8_advance_37 hf (fun h9 hf => ?_)
      refine s_weak (lv' := [none]) trivial ?_
      exact k40 _ hf
/-- HillBoxes$Tape.blame()V -/
noncomputable def f_X8_blame (o : Option Nat) (h : AH) : Option (Unit × AH) :=
  fI h [8] o 8 fun v1 =>
  jn (fun (h2 : AH) =>
    some ((), h2)) fun j20 =>
  if 0 ≤ v1 then
    j20 h
  else
    fR h [8] o 3 fun v3 =>
    fI h [8] o 7 fun v4 =>
    aI h 20 v3 v4 fun v5 =>
    pI h [8] o 8 v5 fun h6 =>
    j20 h6
set_option maxRecDepth 100000 in
set_option maxHeartbeats 4000000 in
theorem c_X8_blame (l : Launch) (D : DT) (o : Option Nat) (h : AH) (r : Unit × AH) (hf : f_X8_blame o h = some r) : CM l D yX8_blame cX8_blame 1 none 0 0 0 0 [.inr (.inr o)] h none r.2 := by
  refine CM.of (by decide) (Nat.le_of_ble_eq_true rfl) (fun X hl C hD hX hnm E => ?_)
  subst hl
  subst hD
  have C : CX X RX8 cX8_blame 1 := C
  show WW X h 0 0 0 [some (rB (xD X).1 o)] []
  unfold f_X8_blame at hf
  refine s_aload_n C dX8_blame_0 rfl ?_
  refine s_getI C fl_X8_41 dX8_blame_1 hf (fun v1 hf => ?_)
  refine s_jn hf (fun j20 e20 hf => ?_)
  have k20 : ∀ (h2 : AH), j20 h2 = some r → WW X h2 0 0 20 [none] [] := by
    intro h2 hf
    rw [e20] at hf
    exact s_return C E dX8_blame_20 hf (Nat.le_of_ble_eq_true rfl) (Nat.le_of_ble_eq_true rfl)
  refine s_if_ge (tgt := 20) C dX8_blame_4 (by decide) hf (fun hf => ?_) (fun hf => ?_)
  · refine s_weak (lv' := [none]) trivial ?_
    exact k20 _ hf
  · refine s_aload_n C dX8_blame_7 rfl ?_
    refine s_aload_n C dX8_blame_8 rfl ?_
    refine s_getR C fl_X8_16 dX8_blame_9 hf (fun v3 hf => ?_)
    refine s_aload_n C dX8_blame_12 rfl ?_
    refine s_getI C fl_X8_44 dX8_blame_13 hf (fun v4 hf => ?_)
    refine s_iaload C dX8_blame_16 hf (fun v5 hf => ?_)
    refine s_putI C fl_X8_41 (by decide) dX8_blame_17 hf (fun h6 hf => ?_)
    refine s_weak (lv' := [none]) trivial ?_
    exact k20 _ hf
/-- HillBoxes$Tape.emit(I)V -/
noncomputable def f_X8_emit (o : Option Nat) (a1 : Int32) (h : AH) : Option (Unit × AH) :=
  fI h [8] o 10 fun v1 =>
  jn (fun (h2 : AH) =>
    some ((), h2)) fun j30 =>
  if (161 : Int32) ≤ v1 then
    j30 h
  else
    fR h [8] o 9 fun v3 =>
    fI h [8] o 10 fun v4 =>
    bI h 20 v3 v4 a1 fun h5 =>
    fI h5 [8] o 10 fun v6 =>
    pI h5 [8] o 10 (v6 + (1 : Int32)) fun h7 =>
    j30 h7
set_option maxRecDepth 100000 in
set_option maxHeartbeats 4000000 in
theorem c_X8_emit (l : Launch) (D : DT) (o : Option Nat) (a1 : Int32) (h : AH) (r : Unit × AH) (hf : f_X8_emit o a1 h = some r) : CM l D yX8_emit cX8_emit 2 none 0 0 0 0 [.inr (.inr o), .inl a1] h none r.2 := by
  refine CM.of (by decide) (Nat.le_of_ble_eq_true rfl) (fun X hl C hD hX hnm E => ?_)
  subst hl
  subst hD
  have C : CX X RX8 cX8_emit 2 := C
  show WW X h 0 0 0 [some (rB (xD X).1 o), some (.int a1)] []
  unfold f_X8_emit at hf
  refine s_aload_n C dX8_emit_0 rfl ?_
  refine s_getI C fl_X8_29 dX8_emit_1 hf (fun v1 hf => ?_)
  refine s_sipush C dX8_emit_4 (v := (161 : Int32)) (by decide) ?_
  refine s_jn hf (fun j30 e30 hf => ?_)
  have k30 : ∀ (h2 : AH), j30 h2 = some r → WW X h2 0 0 30 [none, none] [] := by
    intro h2 hf
    rw [e30] at hf
    exact s_return C E dX8_emit_30 hf (Nat.le_of_ble_eq_true rfl) (Nat.le_of_ble_eq_true rfl)
  refine s_icmp_ge (tgt := 30) C dX8_emit_7 (by decide) hf (fun hf => ?_) (fun hf => ?_)
  · refine s_weak (lv' := [none, none]) trivial ?_
    exact k30 _ hf
  · refine s_aload_n C dX8_emit_10 rfl ?_
    refine s_getR C fl_X8_22 dX8_emit_11 hf (fun v3 hf => ?_)
    refine s_aload_n C dX8_emit_14 rfl ?_
    refine s_getI C fl_X8_29 dX8_emit_15 hf (fun v4 hf => ?_)
    refine s_iload_n C dX8_emit_18 rfl ?_
    refine s_iastore C dX8_emit_19 hf (fun h5 hf => ?_)
    refine s_aload_n C dX8_emit_20 rfl ?_
    refine s_dup C dX8_emit_21 c1_r ?_
    refine s_getI C fl_X8_29 dX8_emit_22 hf (fun v6 hf => ?_)
    refine s_iconst C dX8_emit_25 (v := (1 : Int32)) (by decide) ?_
    refine s_iadd C dX8_emit_26 ?_
    refine s_putI C fl_X8_29 (by decide) dX8_emit_27 hf (fun h7 hf => ?_)
    refine s_weak (lv' := [none, none]) trivial ?_
    exact k30 _ hf
/-- HillBoxes$Tape.expect(I)V -/
noncomputable def f_X8_expect (o : Option Nat) (a1 : Int32) (h : AH) : Option (Unit × AH) :=
  fI h [8] o 6 fun v1 =>
  jn (fun (h2 : AH) =>
    some ((), h2)) fun j26 =>
  jn (
    rO h [8] o <| cl (f_X8_blame o h) fun _ h3 =>
    j26 h3) fun j22 =>
  if v1 = a1 then
    fI h [8] o 8 fun v4 =>
    if 0 ≤ v4 then
      j22
    else
      rO h [8] o <| cl (f_X8_advance o h) fun _ h5 =>
      j26 h5
  else
    j22
set_option maxRecDepth 100000 in
set_option maxHeartbeats 4000000 in
theorem c_X8_expect (l : Launch) (D : DT) (o : Option Nat) (a1 : Int32) (h : AH) (r : Unit × AH) (hf : f_X8_expect o a1 h = some r) : CM l D yX8_expect cX8_expect 2 none 1 20 0 0 [.inr (.inr o), .inl a1] h none r.2 := by
  refine CM.of (by decide) (Nat.le_of_ble_eq_true rfl) (fun X hl C hD hX hnm E => ?_)
  subst hl
  subst hD
  have C : CX X RX8 cX8_expect 2 := C
  show WW X h 0 0 0 [some (rB (xD X).1 o), some (.int a1)] []
  unfold f_X8_expect at hf
  refine s_aload_n C dX8_expect_0 rfl ?_
  refine s_getI C fl_X8_47 dX8_expect_1 hf (fun v1 hf => ?_)
  refine s_iload_n C dX8_expect_4 rfl ?_
  refine s_jn hf (fun j26 e26 hf => ?_)
  have k26 : ∀ (h2 : AH), j26 h2 = some r → WW X h2 0 0 26 [none, none] [] := by
    intro h2 hf
    rw [e26] at hf
    exact s_return C E dX8_expect_26 hf (Nat.le_of_ble_eq_true rfl) (Nat.le_of_ble_eq_true rfl)
  refine s_jn hf (fun j22 e22 hf => ?_)
  have k22 : j22  = some r → WW X h 0 0 22 [some (rB (xD X).1 o), none] [] := by
    intro  hf
    rw [e22] at hf
    refine s_aload_n C dX8_expect_22 rfl ?_
    refine s_callV (rvf := fun _ => none) (st := []) (fr := 0) (lo := 0) (mc := 0) (ms := 0) C [8] wc_X8_blame wml_X8_56 wim_X8_blame wsl_8_X8_blame dX8_expect_23 (As := []) rfl hf (fun x h' hF => c_X8_blame _ _ _ _ (x, h') hF) rfl (Nat.le_of_ble_eq_true rfl) (room_ok hX (Nat.le_of_ble_eq_true rfl) (Nat.le_of_ble_eq_true rfl)) (cell_ok hX (Nat.le_of_ble_eq_true rfl) (Nat.le_of_ble_eq_true rfl)) (fun _ h3 hf => ?_)
    refine s_weak (lv' := [none, none]) trivial ?_
    exact k26 _ hf
  refine s_icmp_ne (tgt := 22) C dX8_expect_5 (by decide) hf (fun hf => ?_) (fun hf => ?_)
  · refine s_weak (lv' := [some (rB (xD X).1 o), none]) ⟨rfl, trivial⟩ ?_
    exact k22 hf
  · refine s_aload_n C dX8_expect_8 rfl ?_
    refine s_getI C fl_X8_41 dX8_expect_9 hf (fun v4 hf => ?_)
    refine s_if_ge (tgt := 22) C dX8_expect_12 (by decide) hf (fun hf => ?_) (fun hf => ?_)
    · refine s_weak (lv' := [some (rB (xD X).1 o), none]) ⟨rfl, trivial⟩ ?_
      exact k22 hf
    · refine s_aload_n C dX8_expect_15 rfl ?_
      refine s_callV (rvf := fun _ => none) (st := []) (fr := 0) (lo := 0) (mc := 0) (ms := 0) C [8] wc_X8_advance wml_X8_53 wim_X8_advance wsl_8_X8_advance dX8_expect_16 (As := []) rfl hf (fun x h' hF => c_X8_advance _ _ _ _ (x, h') hF) rfl (Nat.le_of_ble_eq_true rfl) (room_ok hX (Nat.le_of_ble_eq_true rfl) (Nat.le_of_ble_eq_true rfl)) (cell_ok hX (Nat.le_of_ble_eq_true rfl) (Nat.le_of_ble_eq_true rfl)) (fun _ h5 hf => ?_)
      refine s_goto (tgt := 26) C dX8_expect_19 (by decide) ?_
      refine s_weak (lv' := [none, none]) trivial ?_
      exact k26 _ hf
/-- HillBoxes$Tape.mayOpen(I)Z -/
noncomputable def f_X8_mayOpen (o : Option Nat) (a1 : Int32) (h : AH) : Option (Int32 × AH) :=
  jn (
    rO h [8] o <| cl (f_X8_blame o h) fun _ h1 =>
    rz (0 : Int32) h1) fun j13 =>
  if (6 : Int32) ≤ a1 then
    j13
  else
    fI h [8] o 8 fun v2 =>
    if v2 < 0 then
      rO h [8] o <| cl (f_X8_advance o h) fun _ h3 =>
      rz (1 : Int32) h3
    else
      j13
set_option maxRecDepth 100000 in
set_option maxHeartbeats 4000000 in
theorem c_X8_mayOpen (l : Launch) (D : DT) (o : Option Nat) (a1 : Int32) (h : AH) (r : Int32 × AH) (hf : f_X8_mayOpen o a1 h = some r) : CM l D yX8_mayOpen cX8_mayOpen 2 (some .boolean) 1 20 0 0 [.inr (.inr o), .inl a1] h (some (.int r.1)) r.2 := by
  refine CM.of (by decide) (Nat.le_of_ble_eq_true rfl) (fun X hl C hD hX hnm E => ?_)
  subst hl
  subst hD
  have C : CX X RX8 cX8_mayOpen 2 := C
  show WW X h 0 0 0 [some (rB (xD X).1 o), some (.int a1)] []
  unfold f_X8_mayOpen at hf
  refine s_iload_n C dX8_mayOpen_0 rfl ?_
  refine s_bipush C dX8_mayOpen_1 (v := (6 : Int32)) (by decide) ?_
  refine s_jn hf (fun j13 e13 hf => ?_)
  have k13 : j13  = some r → WW X h 0 0 13 [some (rB (xD X).1 o), none] [] := by
    intro  hf
    rw [e13] at hf
    refine s_aload_n C dX8_mayOpen_13 rfl ?_
    refine s_callV (rvf := fun _ => none) (st := []) (fr := 0) (lo := 0) (mc := 0) (ms := 0) C [8] wc_X8_blame wml_X8_56 wim_X8_blame wsl_8_X8_blame dX8_mayOpen_14 (As := []) rfl hf (fun x h' hF => c_X8_blame _ _ _ _ (x, h') hF) rfl (Nat.le_of_ble_eq_true rfl) (room_ok hX (Nat.le_of_ble_eq_true rfl) (Nat.le_of_ble_eq_true rfl)) (cell_ok hX (Nat.le_of_ble_eq_true rfl) (Nat.le_of_ble_eq_true rfl)) (fun _ h1 hf => ?_)
    refine s_iconst C dX8_mayOpen_17 (v := (0 : Int32)) (by decide) ?_
    exact s_zreturn C E dX8_mayOpen_18 hf (Nat.le_of_ble_eq_true rfl) (Nat.le_of_ble_eq_true rfl)
  refine s_icmp_ge (tgt := 13) C dX8_mayOpen_3 (by decide) hf (fun hf => ?_) (fun hf => ?_)
  · refine s_weak (lv' := [some (rB (xD X).1 o), none]) ⟨rfl, trivial⟩ ?_
    exact k13 hf
  · refine s_aload_n C dX8_mayOpen_6 rfl ?_
    refine s_getI C fl_X8_41 dX8_mayOpen_7 hf (fun v2 hf => ?_)
    refine s_if_lt (tgt := 19) C dX8_mayOpen_10 (by decide) hf (fun hf => ?_) (fun hf => ?_)
    · refine s_aload_n C dX8_mayOpen_19 rfl ?_
      refine s_callV (rvf := fun _ => none) (st := []) (fr := 0) (lo := 0) (mc := 0) (ms := 0) C [8] wc_X8_advance wml_X8_53 wim_X8_advance wsl_8_X8_advance dX8_mayOpen_20 (As := []) rfl hf (fun x h' hF => c_X8_advance _ _ _ _ (x, h') hF) rfl (Nat.le_of_ble_eq_true rfl) (room_ok hX (Nat.le_of_ble_eq_true rfl) (Nat.le_of_ble_eq_true rfl)) (cell_ok hX (Nat.le_of_ble_eq_true rfl) (Nat.le_of_ble_eq_true rfl)) (fun _ h3 hf => ?_)
      refine s_iconst C dX8_mayOpen_23 (v := (1 : Int32)) (by decide) ?_
      exact s_zreturn C E dX8_mayOpen_24 hf (Nat.le_of_ble_eq_true rfl) (Nat.le_of_ble_eq_true rfl)
    · refine s_weak (lv' := [some (rB (xD X).1 o), none]) ⟨rfl, trivial⟩ ?_
      exact k13 hf
/-- HillBoxes$Tape.readBoth(I)V, one turn -/
noncomputable def fb_X8_readBoth (g : Nat → Option Nat → Int32 → AH → Option (Unit × AH)) (o : Option Nat) (a1 : Int32) (h : AH) : Option (Unit × AH) :=
  rO h [8] o <| cl (g 1 o a1 h) fun _ h1 =>
  lp (fun _ _ => none) (fun (L7 : Int32 → AH → Option (Unit × AH)) (x2 : Int32) (h3 : AH) =>
    jn (
      some ((), h3)) fun j52 =>
    if (160 : Int32) ≤ x2 then
      j52
    else
      fI h3 [8] o 8 fun v4 =>
      if 0 ≤ v4 then
        j52
      else
        fI h3 [8] o 6 fun v5 =>
        if v5 = (312 : Int32) then
          rO h3 [8] o <| cl (f_X8_advance o h3) fun _ h6 =>
          rO h6 [8] o <| cl (g 1 o a1 h6) fun _ h7 =>
          rO h7 [8] o <| cl (f_X8_emit o (-22 : Int32) h7) fun _ h8 =>
          L7 (x2 + 1) h8
        else
          j52) lpN (0 : Int32) h1
/-- HillBoxes$Tape.readDenied(I)V, one turn -/
noncomputable def fb_X8_readDenied (g : Nat → Option Nat → Int32 → AH → Option (Unit × AH)) (o : Option Nat) (a1 : Int32) (h : AH) : Option (Unit × AH) :=
  lp (fun _ _ => none) (fun (L2 : Int32 → AH → Option (Unit × AH)) (x1 : Int32) (h2 : AH) =>
    jn (fun (h3 : AH) =>
      rO h3 [8] o <| cl (g 5 o (a1 + x1) h3) fun _ h4 =>
      fI h4 [8] o 6 fun v5 =>
      jn (fun (x6 : Int32) =>
        jn (fun (h7 : AH) =>
          lp (fun _ _ _ => none) (fun (L115 : Int32 → Int32 → AH → Option (Unit × AH)) (x8 : Int32) (x9 : Int32) (h10 : AH) =>
            if x8 ≤ x9 then
              some ((), h10)
            else
              rO h10 [8] o <| cl (f_X8_emit o (-32 : Int32) h10) fun _ h11 =>
              L115 x8 (x9 + 1) h11) lpN x1 (0 : Int32) h7) fun j112 =>
        if x6 = 0 then
          j112 h4
        else
          fI h4 [8] o 8 fun v12 =>
          if 0 ≤ v12 then
            j112 h4
          else
            rO h4 [8] o <| cl (f_X8_advance o h4) fun _ h13 =>
            rO h13 [8] o <| cl (g 5 o (a1 + x1) h13) fun _ h14 =>
            rO h14 [8] o <| cl (f_X8_emit o x6 h14) fun _ h15 =>
            j112 h15) fun j84 =>
      if v5 = (60 : Int32) then
        j84 (-23 : Int32)
      else
        fI h4 [8] o 6 fun v16 =>
        if v16 = (61 : Int32) then
          j84 (-24 : Int32)
        else
          fI h4 [8] o 6 fun v17 =>
          if v17 = (62 : Int32) then
            j84 (-25 : Int32)
          else
            j84 (0 : Int32)) fun j34 =>
    if (6 : Int32) < x1 then
      j34 h2
    else
      fI h2 [8] o 6 fun v18 =>
      if v18 = (313 : Int32) then
        rO h2 [8] o <| cl (f_X8_mayOpen o (a1 + x1) h2) fun v20 h19 =>
        if v20 = 0 then
          j34 h19
        else
          L2 (x1 + 1) h19
      else
        j34 h2) lpN (0 : Int32) h
/-- HillBoxes$Tape.readEither(I)V, one turn -/
noncomputable def fb_X8_readEither (g : Nat → Option Nat → Int32 → AH → Option (Unit × AH)) (o : Option Nat) (a1 : Int32) (h : AH) : Option (Unit × AH) :=
  rO h [8] o <| cl (g 0 o a1 h) fun _ h1 =>
  lp (fun _ _ => none) (fun (L7 : Int32 → AH → Option (Unit × AH)) (x2 : Int32) (h3 : AH) =>
    jn (
      some ((), h3)) fun j52 =>
    if (160 : Int32) ≤ x2 then
      j52
    else
      fI h3 [8] o 8 fun v4 =>
      if 0 ≤ v4 then
        j52
      else
        fI h3 [8] o 6 fun v5 =>
        if v5 = (311 : Int32) then
          rO h3 [8] o <| cl (f_X8_advance o h3) fun _ h6 =>
          rO h6 [8] o <| cl (g 0 o a1 h6) fun _ h7 =>
          rO h7 [8] o <| cl (f_X8_emit o (-21 : Int32) h7) fun _ h8 =>
          L7 (x2 + 1) h8
        else
          j52) lpN (0 : Int32) h1
/-- HillBoxes$Tape.readOne(I)V, one turn -/
noncomputable def fb_X8_readOne (g : Nat → Option Nat → Int32 → AH → Option (Unit × AH)) (o : Option Nat) (a1 : Int32) (h : AH) : Option (Unit × AH) :=
  lp (fun _ _ => none) (fun (L2 : Int32 → AH → Option (Unit × AH)) (x1 : Int32) (h2 : AH) =>
    jn (fun (h3 : AH) =>
      fI h3 [8] o 6 fun v4 =>
      jn (fun (h5 : AH) =>
        lp (fun _ _ _ => none) (fun (L112 : Int32 → Int32 → AH → Option (Unit × AH)) (x6 : Int32) (x7 : Int32) (h8 : AH) =>
          if x6 ≤ x7 then
            some ((), h8)
          else
            rO h8 [8] o <| cl (f_X8_emit o (-31 : Int32) h8) fun _ h9 =>
            L112 x6 (x7 + 1) h9) lpN x1 (0 : Int32) h5) fun j110 =>
      jn (
        fR h3 [8] o 4 fun v10 =>
        fI h3 [8] o 7 fun v11 =>
        aI h3 20 v10 v11 fun v12 =>
        rO h3 [8] o <| cl (f_X8_emit o v12 h3) fun _ h13 =>
        rO h13 [8] o <| cl (f_X8_advance o h13) fun _ h14 =>
        j110 h14) fun j49 =>
      if v4 = (2 : Int32) then
        j49
      else
        fI h3 [8] o 6 fun v15 =>
        if v15 = (3 : Int32) then
          j49
        else
          fI h3 [8] o 6 fun v16 =>
          jn (fun (h17 : AH) =>
            rO h17 [8] o <| cl (f_X8_blame o h17) fun _ h18 =>
            j110 h18) fun j106 =>
          if v16 = (40 : Int32) then
            rO h3 [8] o <| cl (f_X8_mayOpen o (a1 + x1) h3) fun v20 h19 =>
            if v20 = 0 then
              j106 h19
            else
              rO h19 [8] o <| cl (g 2 o ((a1 + x1) + (1 : Int32)) h19) fun _ h21 =>
              rO h21 [8] o <| cl (f_X8_expect o (41 : Int32) h21) fun _ h22 =>
              j110 h22
          else
            j106 h3) fun j33 =>
    if (6 : Int32) < x1 then
      j33 h2
    else
      fI h2 [8] o 6 fun v23 =>
      if v23 = (45 : Int32) then
        rO h2 [8] o <| cl (f_X8_mayOpen o (a1 + x1) h2) fun v25 h24 =>
        if v25 = 0 then
          j33 h24
        else
          L2 (x1 + 1) h24
      else
        j33 h2) lpN (0 : Int32) h
/-- HillBoxes$Tape.readProduct(I)V, one turn -/
noncomputable def fb_X8_readProduct (g : Nat → Option Nat → Int32 → AH → Option (Unit × AH)) (o : Option Nat) (a1 : Int32) (h : AH) : Option (Unit × AH) :=
  rO h [8] o <| cl (g 3 o a1 h) fun _ h1 =>
  lp (fun _ _ => none) (fun (L7 : Int32 → AH → Option (Unit × AH)) (x2 : Int32) (h3 : AH) =>
    jn (
      some ((), h3)) fun j99 =>
    if (160 : Int32) ≤ x2 then
      j99
    else
      fI h3 [8] o 8 fun v4 =>
      if 0 ≤ v4 then
        j99
      else
        fI h3 [8] o 6 fun v5 =>
        jn (
          fI h3 [8] o 6 fun v6 =>
          jn (fun (x7 : Int32) =>
            rO h3 [8] o <| cl (f_X8_advance o h3) fun _ h8 =>
            rO h8 [8] o <| cl (g 3 o a1 h8) fun _ h9 =>
            rO h9 [8] o <| cl (f_X8_emit o x7 h9) fun _ h10 =>
            L7 (x2 + 1) h10) fun j78 =>
          if v6 = (42 : Int32) then
            j78 (-28 : Int32)
          else
            fI h3 [8] o 6 fun v11 =>
            if v11 = (47 : Int32) then
              j78 (-29 : Int32)
            else
              j78 (-30 : Int32)) fun j48 =>
        if v5 = (42 : Int32) then
          j48
        else
          fI h3 [8] o 6 fun v12 =>
          if v12 = (47 : Int32) then
            j48
          else
            fI h3 [8] o 6 fun v13 =>
            if v13 = (37 : Int32) then
              j48
            else
              j99) lpN (0 : Int32) h1
/-- HillBoxes$Tape.readSum(I)V, one turn -/
noncomputable def fb_X8_readSum (g : Nat → Option Nat → Int32 → AH → Option (Unit × AH)) (o : Option Nat) (a1 : Int32) (h : AH) : Option (Unit × AH) :=
  rO h [8] o <| cl (g 4 o a1 h) fun _ h1 =>
  lp (fun _ _ => none) (fun (L7 : Int32 → AH → Option (Unit × AH)) (x2 : Int32) (h3 : AH) =>
    jn (
      some ((), h3)) fun j76 =>
    if (160 : Int32) ≤ x2 then
      j76
    else
      fI h3 [8] o 8 fun v4 =>
      if 0 ≤ v4 then
        j76
      else
        fI h3 [8] o 6 fun v5 =>
        jn (
          fI h3 [8] o 6 fun v6 =>
          jn (fun (x7 : Int32) =>
            rO h3 [8] o <| cl (f_X8_advance o h3) fun _ h8 =>
            rO h8 [8] o <| cl (g 4 o a1 h8) fun _ h9 =>
            rO h9 [8] o <| cl (f_X8_emit o x7 h9) fun _ h10 =>
            L7 (x2 + 1) h10) fun j55 =>
          if v6 = (43 : Int32) then
            j55 (-26 : Int32)
          else
            j55 (-27 : Int32)) fun j39 =>
        if v5 = (43 : Int32) then
          j39
        else
          fI h3 [8] o 6 fun v11 =>
          if v11 = (45 : Int32) then
            j39
          else
            j76) lpN (0 : Int32) h1
noncomputable def G_X8_readBoth : Nat → Nat → Option Nat → Int32 → AH → Option (Unit × AH)
  | 0 => fun _ _ _ _ => none
  | n + 1 => fun t p0 p1 h => if t = 0 then fb_X8_readBoth (G_X8_readBoth n) p0 p1 h else if t = 1 then fb_X8_readDenied (G_X8_readBoth n) p0 p1 h else if t = 2 then fb_X8_readEither (G_X8_readBoth n) p0 p1 h else if t = 3 then fb_X8_readOne (G_X8_readBoth n) p0 p1 h else if t = 4 then fb_X8_readProduct (G_X8_readBoth n) p0 p1 h else fb_X8_readSum (G_X8_readBoth n) p0 p1 h
theorem eq_G_X8_readBoth (n t : Nat) (p0 : Option Nat) (p1 : Int32) (h : AH) : G_X8_readBoth (n + 1) t p0 p1 h = (if t = 0 then fb_X8_readBoth (G_X8_readBoth n) p0 p1 h else if t = 1 then fb_X8_readDenied (G_X8_readBoth n) p0 p1 h else if t = 2 then fb_X8_readEither (G_X8_readBoth n) p0 p1 h else if t = 3 then fb_X8_readOne (G_X8_readBoth n) p0 p1 h else if t = 4 then fb_X8_readProduct (G_X8_readBoth n) p0 p1 h else fb_X8_readSum (G_X8_readBoth n) p0 p1 h) := by first | rfl | rw [G_X8_readBoth]
noncomputable def f_X8_readBoth (o : Option Nat) (a1 : Int32) (h : AH) : Option (Unit × AH) := G_X8_readBoth (opq 100) 0 o a1 h
noncomputable def f_X8_readDenied (o : Option Nat) (a1 : Int32) (h : AH) : Option (Unit × AH) := G_X8_readBoth (opq 100) 1 o a1 h
noncomputable def f_X8_readEither (o : Option Nat) (a1 : Int32) (h : AH) : Option (Unit × AH) := G_X8_readBoth (opq 100) 2 o a1 h
noncomputable def f_X8_readOne (o : Option Nat) (a1 : Int32) (h : AH) : Option (Unit × AH) := G_X8_readBoth (opq 100) 3 o a1 h
noncomputable def f_X8_readProduct (o : Option Nat) (a1 : Int32) (h : AH) : Option (Unit × AH) := G_X8_readBoth (opq 100) 4 o a1 h
noncomputable def f_X8_readSum (o : Option Nat) (a1 : Int32) (h : AH) : Option (Unit × AH) := G_X8_readBoth (opq 100) 5 o a1 h
def PG_X8_readBoth (l : Launch) (D : DT) (n : Nat) : Prop := (∀ (p0 : Option Nat) (p1 : Int32) (h : AH) (r : Unit × AH), G_X8_readBoth n 0 p0 p1 h = some r → CM l D yX8_readBoth cX8_readBoth 3 none (2 + n) (41 + 60 * n) 0 0 [.inr (.inr p0), .inl p1] h none r.2) ∧ (∀ (p0 : Option Nat) (p1 : Int32) (h : AH) (r : Unit × AH), G_X8_readBoth n 1 p0 p1 h = some r → CM l D yX8_readDenied cX8_readDenied 5 none (2 + n) (41 + 60 * n) 0 0 [.inr (.inr p0), .inl p1] h none r.2) ∧ (∀ (p0 : Option Nat) (p1 : Int32) (h : AH) (r : Unit × AH), G_X8_readBoth n 2 p0 p1 h = some r → CM l D yX8_readEither cX8_readEither 3 none (2 + n) (41 + 60 * n) 0 0 [.inr (.inr p0), .inl p1] h none r.2) ∧ (∀ (p0 : Option Nat) (p1 : Int32) (h : AH) (r : Unit × AH), G_X8_readBoth n 3 p0 p1 h = some r → CM l D yX8_readOne cX8_readOne 4 none (2 + n) (41 + 60 * n) 0 0 [.inr (.inr p0), .inl p1] h none r.2) ∧ (∀ (p0 : Option Nat) (p1 : Int32) (h : AH) (r : Unit × AH), G_X8_readBoth n 4 p0 p1 h = some r → CM l D yX8_readProduct cX8_readProduct 4 none (2 + n) (41 + 60 * n) 0 0 [.inr (.inr p0), .inl p1] h none r.2) ∧ (∀ (p0 : Option Nat) (p1 : Int32) (h : AH) (r : Unit × AH), G_X8_readBoth n 5 p0 p1 h = some r → CM l D yX8_readSum cX8_readSum 4 none (2 + n) (41 + 60 * n) 0 0 [.inr (.inr p0), .inl p1] h none r.2)
set_option maxRecDepth 100000 in
set_option maxHeartbeats 4000000 in
theorem cs_X8_readBoth (l : Launch) (D : DT) (nS : Nat) (ih : PG_X8_readBoth l D nS) : ∀ (p0 : Option Nat) (p1 : Int32) (h : AH) (r : Unit × AH), G_X8_readBoth (nS + 1) 0 p0 p1 h = some r → CM l D yX8_readBoth cX8_readBoth 3 none (2 + (nS + 1)) (41 + 60 * (nS + 1)) 0 0 [.inr (.inr p0), .inl p1] h none r.2 := by
  unfold PG_X8_readBoth at ih
  intro o a1 h r hf
  rw [eq_G_X8_readBoth] at hf
  have hf : fb_X8_readBoth (G_X8_readBoth nS) o a1 h = some r := (if_pos rfl).symm.trans hf
  refine CM.of (by decide) (Nat.le_of_ble_eq_true rfl) (fun X hl C hD hX hnm E => ?_)
  subst hl
  subst hD
  have C : CX X RX8 cX8_readBoth 3 := C
  show WW X h 0 0 0 [some (rB (xD X).1 o), some (.int a1), none] []
  unfold fb_X8_readBoth at hf
  refine s_aload_n C dX8_readBoth_0 rfl ?_
  refine s_iload_n C dX8_readBoth_1 rfl ?_
  refine s_callV (rvf := fun _ => none) (st := []) (fr := (2 + nS)) (lo := (41 + 60 * nS)) (mc := 0) (ms := 0) C [8] wc_X8_readDenied wml_X8_72 wim_X8_readDenied wsl_8_X8_readDenied dX8_readBoth_2 (As := [.inl a1]) rfl hf (fun x h' hF => ih.2.1 o a1 h (x, h') hF) rfl (Nat.le_of_ble_eq_true rfl) (room_ok hX (by omega) (by omega)) (cell_ok hX (Nat.le_of_ble_eq_true rfl) (Nat.le_of_ble_eq_true rfl)) (fun _ h1 hf => ?_)
  refine s_iconst C dX8_readBoth_5 (v := (0 : Int32)) (by decide) ?_
  refine s_istore_n C dX8_readBoth_6 (by decide) (nc_i rfl) (lv' := [some (rB (xD X).1 o), some (.int a1), some (.int (0 : Int32))]) rfl ?_
  refine s_lp2 hf (fun G7 z7 q7 hf => ?_)
  have k7 : ∀ (n : Nat) (x2 : Int32) (h3 : AH), G7 n x2 h3 = some r → WW X h3 0 0 7 [some (rB (xD X).1 o), some (.int a1), some (.int x2)] [] := by
    intro n
    induction n with
    | zero =>
      intro x2 h3 hf
      rw [z7] at hf
      cases hf
    | succ n ih7 =>
      intro x2 h3 hf
      have hf := (q7 n x2 h3).symm.trans hf
      refine s_iload_n C dX8_readBoth_7 rfl ?_
      refine s_sipush C dX8_readBoth_8 (v := (160 : Int32)) (by decide) ?_
      refine s_jn hf (fun j52 e52 hf => ?_)
      have k52 : j52  = some r → WW X h3 0 0 52 [none, none, none] [] := by
        intro  hf
        rw [e52] at hf
        exact s_return C E dX8_readBoth_52 hf (Nat.le_of_ble_eq_true rfl) (Nat.le_of_ble_eq_true rfl)
      refine s_icmp_ge (tgt := 52) C dX8_readBoth_11 (by decide) hf (fun hf => ?_) (fun hf => ?_)
      · refine s_weak (lv' := [none, none, none]) trivial ?_
        exact k52 hf
      · refine s_aload_n C dX8_readBoth_14 rfl ?_
        refine s_getI C fl_X8_41 dX8_readBoth_15 hf (fun v4 hf => ?_)
        refine s_if_ge (tgt := 52) C dX8_readBoth_18 (by decide) hf (fun hf => ?_) (fun hf => ?_)
        · refine s_weak (lv' := [none, none, none]) trivial ?_
          exact k52 hf
        · refine s_aload_n C dX8_readBoth_21 rfl ?_
          refine s_getI C fl_X8_47 dX8_readBoth_22 hf (fun v5 hf => ?_)
          refine s_sipush C dX8_readBoth_25 (v := (312 : Int32)) (by decide) ?_
          refine s_icmp_ne (tgt := 52) C dX8_readBoth_28 (by decide) hf (fun hf => ?_) (fun hf => ?_)
          · refine s_weak (lv' := [none, none, none]) trivial ?_
            exact k52 hf
          · refine s_aload_n C dX8_readBoth_31 rfl ?_
            refine s_callV (rvf := fun _ => none) (st := []) (fr := 0) (lo := 0) (mc := 0) (ms := 0) C [8] wc_X8_advance wml_X8_53 wim_X8_advance wsl_8_X8_advance dX8_readBoth_32 (As := []) rfl hf (fun x h' hF => c_X8_advance _ _ _ _ (x, h') hF) rfl (Nat.le_of_ble_eq_true rfl) (room_ok hX (by omega) (by omega)) (cell_ok hX (Nat.le_of_ble_eq_true rfl) (Nat.le_of_ble_eq_true rfl)) (fun _ h6 hf => ?_)
            refine s_aload_n C dX8_readBoth_35 rfl ?_
            refine s_iload_n C dX8_readBoth_36 rfl ?_
            refine s_callV (rvf := fun _ => none) (st := []) (fr := (2 + nS)) (lo := (41 + 60 * nS)) (mc := 0) (ms := 0) C [8] wc_X8_readDenied wml_X8_72 wim_X8_readDenied wsl_8_X8_readDenied dX8_readBoth_37 (As := [.inl a1]) rfl hf (fun x h' hF => ih.2.1 o a1 h6 (x, h') hF) rfl (Nat.le_of_ble_eq_true rfl) (room_ok hX (by omega) (by omega)) (cell_ok hX (Nat.le_of_ble_eq_true rfl) (Nat.le_of_ble_eq_true rfl)) (fun _ h7 hf => ?_)
            refine s_aload_n C dX8_readBoth_40 rfl ?_
            refine s_bipush C dX8_readBoth_41 (v := (-22 : Int32)) (by decide) ?_
            refine s_callV (rvf := fun _ => none) (st := []) (fr := 0) (lo := 0) (mc := 0) (ms := 0) C [8] wc_X8_emit wml_X8_63 wim_X8_emit wsl_8_X8_emit dX8_readBoth_43 (As := [.inl (-22 : Int32)]) rfl hf (fun x h' hF => c_X8_emit _ _ _ _ _ (x, h') hF) rfl (Nat.le_of_ble_eq_true rfl) (room_ok hX (by omega) (by omega)) (cell_ok hX (Nat.le_of_ble_eq_true rfl) (Nat.le_of_ble_eq_true rfl)) (fun _ h8 hf => ?_)
            refine s_iinc C dX8_readBoth_46 (v := (x2 + 1)) rfl rfl (by decide) (nc_i rfl) (lv' := [some (rB (xD X).1 o), some (.int a1), some (.int (x2 + 1))]) rfl ?_
            refine s_goto (tgt := 7) C dX8_readBoth_49 (by decide) ?_
            exact ih7 _ _ hf
  exact k7 lpN _ _ hf
set_option maxRecDepth 100000 in
set_option maxHeartbeats 4000000 in
theorem cs_X8_readDenied (l : Launch) (D : DT) (nS : Nat) (ih : PG_X8_readBoth l D nS) : ∀ (p0 : Option Nat) (p1 : Int32) (h : AH) (r : Unit × AH), G_X8_readBoth (nS + 1) 1 p0 p1 h = some r → CM l D yX8_readDenied cX8_readDenied 5 none (2 + (nS + 1)) (41 + 60 * (nS + 1)) 0 0 [.inr (.inr p0), .inl p1] h none r.2 := by
  unfold PG_X8_readBoth at ih
  intro o a1 h r hf
  rw [eq_G_X8_readBoth] at hf
  have hf : fb_X8_readDenied (G_X8_readBoth nS) o a1 h = some r := (if_pos rfl).symm.trans ((if_neg (by decide)).symm.trans (hf))
  refine CM.of (by decide) (Nat.le_of_ble_eq_true rfl) (fun X hl C hD hX hnm E => ?_)
  subst hl
  subst hD
  have C : CX X RX8 cX8_readDenied 5 := C
  show WW X h 0 0 0 [some (rB (xD X).1 o), some (.int a1), none, none, none] []
  unfold fb_X8_readDenied at hf
  refine s_iconst C dX8_readDenied_0 (v := (0 : Int32)) (by decide) ?_
  refine s_istore_n C dX8_readDenied_1 (by decide) (nc_i rfl) (lv' := [some (rB (xD X).1 o), some (.int a1), some (.int (0 : Int32)), none, none]) rfl ?_
  refine s_lp2 hf (fun G2 z2 q2 hf => ?_)
  have k2 : ∀ (n : Nat) (x1 : Int32) (h2 : AH), G2 n x1 h2 = some r → WW X h2 0 0 2 [some (rB (xD X).1 o), some (.int a1), some (.int x1), none, none] [] := by
    intro n
    induction n with
    | zero =>
      intro x1 h2 hf
      rw [z2] at hf
      cases hf
    | succ n ih2 =>
      intro x1 h2 hf
      have hf := (q2 n x1 h2).symm.trans hf
      refine s_iload_n C dX8_readDenied_2 rfl ?_
      refine s_bipush C dX8_readDenied_3 (v := (6 : Int32)) (by decide) ?_
      refine s_jn hf (fun j34 e34 hf => ?_)
      have k34 : ∀ (h3 : AH), j34 h3 = some r → WW X h3 0 0 34 [some (rB (xD X).1 o), some (.int a1), some (.int x1), none, none] [] := by
        intro h3 hf
        rw [e34] at hf
        refine s_aload_n C dX8_readDenied_34 rfl ?_
        refine s_iload_n C dX8_readDenied_35 rfl ?_
        refine s_iload_n C dX8_readDenied_36 rfl ?_
        refine s_iadd C dX8_readDenied_37 ?_
        refine s_callV (rvf := fun _ => none) (st := []) (fr := (2 + nS)) (lo := (41 + 60 * nS)) (mc := 0) (ms := 0) C [8] wc_X8_readSum wml_X8_79 wim_X8_readSum wsl_8_X8_readSum dX8_readDenied_38 (As := [.inl (a1 + x1)]) rfl hf (fun x h' hF => ih.2.2.2.2.2 o (a1 + x1) h3 (x, h') hF) rfl (Nat.le_of_ble_eq_true rfl) (room_ok hX (by omega) (by omega)) (cell_ok hX (Nat.le_of_ble_eq_true rfl) (Nat.le_of_ble_eq_true rfl)) (fun _ h4 hf => ?_)
        refine s_aload_n C dX8_readDenied_41 rfl ?_
        refine s_getI C fl_X8_47 dX8_readDenied_42 hf (fun v5 hf => ?_)
        refine s_bipush C dX8_readDenied_45 (v := (60 : Int32)) (by decide) ?_
        refine s_jn hf (fun j84 e84 hf => ?_)
        have k84 : ∀ (x6 : Int32), j84 x6 = some r → WW X h4 0 0 84 [some (rB (xD X).1 o), some (.int a1), some (.int x1), none, none] [.int x6] := by
          intro x6 hf
          rw [e84] at hf
          refine s_istore_n C dX8_readDenied_84 (by decide) (nc_i rfl) (lv' := [some (rB (xD X).1 o), some (.int a1), some (.int x1), some (.int x6), none]) rfl ?_
          refine s_iload_n C dX8_readDenied_85 rfl ?_
          refine s_jn hf (fun j112 e112 hf => ?_)
          have k112 : ∀ (h7 : AH), j112 h7 = some r → WW X h7 0 0 112 [some (rB (xD X).1 o), none, some (.int x1), none, none] [] := by
            intro h7 hf
            rw [e112] at hf
            refine s_iconst C dX8_readDenied_112 (v := (0 : Int32)) (by decide) ?_
            refine s_istore C dX8_readDenied_113 (by decide) (nc_n rfl) (lv' := [some (rB (xD X).1 o), none, some (.int x1), none, some (.int (0 : Int32))]) rfl ?_
            refine s_lp3 hf (fun G115 z115 q115 hf => ?_)
            have k115 : ∀ (n : Nat) (x8 : Int32) (x9 : Int32) (h10 : AH), G115 n x8 x9 h10 = some r → WW X h10 0 0 115 [some (rB (xD X).1 o), none, some (.int x8), none, some (.int x9)] [] := by
              intro n
              induction n with
              | zero =>
                intro x8 x9 h10 hf
                rw [z115] at hf
                cases hf
              | succ n ih115 =>
                intro x8 x9 h10 hf
                have hf := (q115 n x8 x9 h10).symm.trans hf
                refine s_iload C dX8_readDenied_115 rfl ?_
                refine s_iload_n C dX8_readDenied_117 rfl ?_
                refine s_icmp_ge (tgt := 133) C dX8_readDenied_118 (by decide) hf (fun hf => ?_) (fun hf => ?_)
                · exact s_return C E dX8_readDenied_133 hf (Nat.le_of_ble_eq_true rfl) (Nat.le_of_ble_eq_true rfl)
                · refine s_aload_n C dX8_readDenied_121 rfl ?_
                  refine s_bipush C dX8_readDenied_122 (v := (-32 : Int32)) (by decide) ?_
                  refine s_callV (rvf := fun _ => none) (st := []) (fr := 0) (lo := 0) (mc := 0) (ms := 0) C [8] wc_X8_emit wml_X8_63 wim_X8_emit wsl_8_X8_emit dX8_readDenied_124 (As := [.inl (-32 : Int32)]) rfl hf (fun x h' hF => c_X8_emit _ _ _ _ _ (x, h') hF) rfl (Nat.le_of_ble_eq_true rfl) (room_ok hX (by omega) (by omega)) (cell_ok hX (Nat.le_of_ble_eq_true rfl) (Nat.le_of_ble_eq_true rfl)) (fun _ h11 hf => ?_)
                  refine s_iinc C dX8_readDenied_127 (v := (x9 + 1)) rfl rfl (by decide) (nc_n rfl) (lv' := [some (rB (xD X).1 o), none, some (.int x8), none, some (.int (x9 + 1))]) rfl ?_
                  refine s_goto (tgt := 115) C dX8_readDenied_130 (by decide) ?_
                  exact ih115 _ _ _ hf
            exact k115 lpN _ _ _ hf
          refine s_if_eq (tgt := 112) C dX8_readDenied_86 (by decide) hf (fun hf => ?_) (fun hf => ?_)
          · refine s_weak (lv' := [some (rB (xD X).1 o), none, some (.int x1), none, none]) ⟨rfl, ⟨rfl, trivial⟩⟩ ?_
            exact k112 _ hf
          · refine s_aload_n C dX8_readDenied_89 rfl ?_
            refine s_getI C fl_X8_41 dX8_readDenied_90 hf (fun v12 hf => ?_)
            refine s_if_ge (tgt := 112) C dX8_readDenied_93 (by decide) hf (fun hf => ?_) (fun hf => ?_)
            · refine s_weak (lv' := [some (rB (xD X).1 o), none, some (.int x1), none, none]) ⟨rfl, ⟨rfl, trivial⟩⟩ ?_
              exact k112 _ hf
            · refine s_aload_n C dX8_readDenied_96 rfl ?_
              refine s_callV (rvf := fun _ => none) (st := []) (fr := 0) (lo := 0) (mc := 0) (ms := 0) C [8] wc_X8_advance wml_X8_53 wim_X8_advance wsl_8_X8_advance dX8_readDenied_97 (As := []) rfl hf (fun x h' hF => c_X8_advance _ _ _ _ (x, h') hF) rfl (Nat.le_of_ble_eq_true rfl) (room_ok hX (by omega) (by omega)) (cell_ok hX (Nat.le_of_ble_eq_true rfl) (Nat.le_of_ble_eq_true rfl)) (fun _ h13 hf => ?_)
              refine s_aload_n C dX8_readDenied_100 rfl ?_
              refine s_iload_n C dX8_readDenied_101 rfl ?_
              refine s_iload_n C dX8_readDenied_102 rfl ?_
              refine s_iadd C dX8_readDenied_103 ?_
              refine s_callV (rvf := fun _ => none) (st := []) (fr := (2 + nS)) (lo := (41 + 60 * nS)) (mc := 0) (ms := 0) C [8] wc_X8_readSum wml_X8_79 wim_X8_readSum wsl_8_X8_readSum dX8_readDenied_104 (As := [.inl (a1 + x1)]) rfl hf (fun x h' hF => ih.2.2.2.2.2 o (a1 + x1) h13 (x, h') hF) rfl (Nat.le_of_ble_eq_true rfl) (room_ok hX (by omega) (by omega)) (cell_ok hX (Nat.le_of_ble_eq_true rfl) (Nat.le_of_ble_eq_true rfl)) (fun _ h14 hf => ?_)
              refine s_aload_n C dX8_readDenied_107 rfl ?_
              refine s_iload_n C dX8_readDenied_108 rfl ?_
              refine s_callV (rvf := fun _ => none) (st := []) (fr := 0) (lo := 0) (mc := 0) (ms := 0) C [8] wc_X8_emit wml_X8_63 wim_X8_emit wsl_8_X8_emit dX8_readDenied_109 (As := [.inl x6]) rfl hf (fun x h' hF => c_X8_emit _ _ _ _ _ (x, h') hF) rfl (Nat.le_of_ble_eq_true rfl) (room_ok hX (by omega) (by omega)) (cell_ok hX (Nat.le_of_ble_eq_true rfl) (Nat.le_of_ble_eq_true rfl)) (fun _ h15 hf => ?_)
              refine s_weak (lv' := [some (rB (xD X).1 o), none, some (.int x1), none, none]) ⟨rfl, ⟨rfl, trivial⟩⟩ ?_
              exact k112 _ hf
        refine s_icmp_ne (tgt := 55) C dX8_readDenied_47 (by decide) hf (fun hf => ?_) (fun hf => ?_)
        · refine s_aload_n C dX8_readDenied_55 rfl ?_
          refine s_getI C fl_X8_47 dX8_readDenied_56 hf (fun v16 hf => ?_)
          refine s_bipush C dX8_readDenied_59 (v := (61 : Int32)) (by decide) ?_
          refine s_icmp_ne (tgt := 69) C dX8_readDenied_61 (by decide) hf (fun hf => ?_) (fun hf => ?_)
          · refine s_aload_n C dX8_readDenied_69 rfl ?_
            refine s_getI C fl_X8_47 dX8_readDenied_70 hf (fun v17 hf => ?_)
            refine s_bipush C dX8_readDenied_73 (v := (62 : Int32)) (by decide) ?_
            refine s_icmp_ne (tgt := 83) C dX8_readDenied_75 (by decide) hf (fun hf => ?_) (fun hf => ?_)
            · refine s_iconst C dX8_readDenied_83 (v := (0 : Int32)) (by decide) ?_
              exact k84 _ hf
            · refine s_bipush C dX8_readDenied_78 (v := (-25 : Int32)) (by decide) ?_
              refine s_goto (tgt := 84) C dX8_readDenied_80 (by decide) ?_
              exact k84 _ hf
          · refine s_bipush C dX8_readDenied_64 (v := (-24 : Int32)) (by decide) ?_
            refine s_goto (tgt := 84) C dX8_readDenied_66 (by decide) ?_
            exact k84 _ hf
        · refine s_bipush C dX8_readDenied_50 (v := (-23 : Int32)) (by decide) ?_
          refine s_goto (tgt := 84) C dX8_readDenied_52 (by decide) ?_
          exact k84 _ hf
      refine s_icmp_gt (tgt := 34) C dX8_readDenied_5 (by decide) hf (fun hf => ?_) (fun hf => ?_)
      · exact k34 _ hf
      · refine s_aload_n C dX8_readDenied_8 rfl ?_
        refine s_getI C fl_X8_47 dX8_readDenied_9 hf (fun v18 hf => ?_)
        refine s_sipush C dX8_readDenied_12 (v := (313 : Int32)) (by decide) ?_
        refine s_icmp_ne (tgt := 34) C dX8_readDenied_15 (by decide) hf (fun hf => ?_) (fun hf => ?_)
        · exact k34 _ hf
        · refine s_aload_n C dX8_readDenied_18 rfl ?_
          refine s_iload_n C dX8_readDenied_19 rfl ?_
          refine s_iload_n C dX8_readDenied_20 rfl ?_
          refine s_iadd C dX8_readDenied_21 ?_
          refine s_callV (rvf := fun x => some (.int x)) (st := []) (fr := 1) (lo := 20) (mc := 0) (ms := 0) C [8] wc_X8_mayOpen wml_X8_75 wim_X8_mayOpen wsl_8_X8_mayOpen dX8_readDenied_22 (As := [.inl (a1 + x1)]) rfl hf (fun x h' hF => c_X8_mayOpen _ _ _ _ _ (x, h') hF) rfl (Nat.le_of_ble_eq_true rfl) (room_ok hX (by omega) (by omega)) (cell_ok hX (Nat.le_of_ble_eq_true rfl) (Nat.le_of_ble_eq_true rfl)) (fun v20 h19 hf => ?_)
          refine s_if_eq (tgt := 34) C dX8_readDenied_25 (by decide) hf (fun hf => ?_) (fun hf => ?_)
          · exact k34 _ hf
          · refine s_iinc C dX8_readDenied_28 (v := (x1 + 1)) rfl rfl (by decide) (nc_i rfl) (lv' := [some (rB (xD X).1 o), some (.int a1), some (.int (x1 + 1)), none, none]) rfl ?_
            refine s_goto (tgt := 2) C dX8_readDenied_31 (by decide) ?_
            exact ih2 _ _ hf
  exact k2 lpN _ _ hf
set_option maxRecDepth 100000 in
set_option maxHeartbeats 4000000 in
theorem cs_X8_readEither (l : Launch) (D : DT) (nS : Nat) (ih : PG_X8_readBoth l D nS) : ∀ (p0 : Option Nat) (p1 : Int32) (h : AH) (r : Unit × AH), G_X8_readBoth (nS + 1) 2 p0 p1 h = some r → CM l D yX8_readEither cX8_readEither 3 none (2 + (nS + 1)) (41 + 60 * (nS + 1)) 0 0 [.inr (.inr p0), .inl p1] h none r.2 := by
  unfold PG_X8_readBoth at ih
  intro o a1 h r hf
  rw [eq_G_X8_readBoth] at hf
  have hf : fb_X8_readEither (G_X8_readBoth nS) o a1 h = some r := (if_pos rfl).symm.trans ((if_neg (by decide)).symm.trans ((if_neg (by decide)).symm.trans (hf)))
  refine CM.of (by decide) (Nat.le_of_ble_eq_true rfl) (fun X hl C hD hX hnm E => ?_)
  subst hl
  subst hD
  have C : CX X RX8 cX8_readEither 3 := C
  show WW X h 0 0 0 [some (rB (xD X).1 o), some (.int a1), none] []
  unfold fb_X8_readEither at hf
  refine s_aload_n C dX8_readEither_0 rfl ?_
  refine s_iload_n C dX8_readEither_1 rfl ?_
  refine s_callV (rvf := fun _ => none) (st := []) (fr := (2 + nS)) (lo := (41 + 60 * nS)) (mc := 0) (ms := 0) C [8] wc_X8_readBoth wml_X8_69 wim_X8_readBoth wsl_8_X8_readBoth dX8_readEither_2 (As := [.inl a1]) rfl hf (fun x h' hF => ih.1 o a1 h (x, h') hF) rfl (Nat.le_of_ble_eq_true rfl) (room_ok hX (by omega) (by omega)) (cell_ok hX (Nat.le_of_ble_eq_true rfl) (Nat.le_of_ble_eq_true rfl)) (fun _ h1 hf => ?_)
  refine s_iconst C dX8_readEither_5 (v := (0 : Int32)) (by decide) ?_
  refine s_istore_n C dX8_readEither_6 (by decide) (nc_i rfl) (lv' := [some (rB (xD X).1 o), some (.int a1), some (.int (0 : Int32))]) rfl ?_
  refine s_lp2 hf (fun G7 z7 q7 hf => ?_)
  have k7 : ∀ (n : Nat) (x2 : Int32) (h3 : AH), G7 n x2 h3 = some r → WW X h3 0 0 7 [some (rB (xD X).1 o), some (.int a1), some (.int x2)] [] := by
    intro n
    induction n with
    | zero =>
      intro x2 h3 hf
      rw [z7] at hf
      cases hf
    | succ n ih7 =>
      intro x2 h3 hf
      have hf := (q7 n x2 h3).symm.trans hf
      refine s_iload_n C dX8_readEither_7 rfl ?_
      refine s_sipush C dX8_readEither_8 (v := (160 : Int32)) (by decide) ?_
      refine s_jn hf (fun j52 e52 hf => ?_)
      have k52 : j52  = some r → WW X h3 0 0 52 [none, none, none] [] := by
        intro  hf
        rw [e52] at hf
        exact s_return C E dX8_readEither_52 hf (Nat.le_of_ble_eq_true rfl) (Nat.le_of_ble_eq_true rfl)
      refine s_icmp_ge (tgt := 52) C dX8_readEither_11 (by decide) hf (fun hf => ?_) (fun hf => ?_)
      · refine s_weak (lv' := [none, none, none]) trivial ?_
        exact k52 hf
      · refine s_aload_n C dX8_readEither_14 rfl ?_
        refine s_getI C fl_X8_41 dX8_readEither_15 hf (fun v4 hf => ?_)
        refine s_if_ge (tgt := 52) C dX8_readEither_18 (by decide) hf (fun hf => ?_) (fun hf => ?_)
        · refine s_weak (lv' := [none, none, none]) trivial ?_
          exact k52 hf
        · refine s_aload_n C dX8_readEither_21 rfl ?_
          refine s_getI C fl_X8_47 dX8_readEither_22 hf (fun v5 hf => ?_)
          refine s_sipush C dX8_readEither_25 (v := (311 : Int32)) (by decide) ?_
          refine s_icmp_ne (tgt := 52) C dX8_readEither_28 (by decide) hf (fun hf => ?_) (fun hf => ?_)
          · refine s_weak (lv' := [none, none, none]) trivial ?_
            exact k52 hf
          · refine s_aload_n C dX8_readEither_31 rfl ?_
            refine s_callV (rvf := fun _ => none) (st := []) (fr := 0) (lo := 0) (mc := 0) (ms := 0) C [8] wc_X8_advance wml_X8_53 wim_X8_advance wsl_8_X8_advance dX8_readEither_32 (As := []) rfl hf (fun x h' hF => c_X8_advance _ _ _ _ (x, h') hF) rfl (Nat.le_of_ble_eq_true rfl) (room_ok hX (by omega) (by omega)) (cell_ok hX (Nat.le_of_ble_eq_true rfl) (Nat.le_of_ble_eq_true rfl)) (fun _ h6 hf => ?_)
            refine s_aload_n C dX8_readEither_35 rfl ?_
            refine s_iload_n C dX8_readEither_36 rfl ?_
            refine s_callV (rvf := fun _ => none) (st := []) (fr := (2 + nS)) (lo := (41 + 60 * nS)) (mc := 0) (ms := 0) C [8] wc_X8_readBoth wml_X8_69 wim_X8_readBoth wsl_8_X8_readBoth dX8_readEither_37 (As := [.inl a1]) rfl hf (fun x h' hF => ih.1 o a1 h6 (x, h') hF) rfl (Nat.le_of_ble_eq_true rfl) (room_ok hX (by omega) (by omega)) (cell_ok hX (Nat.le_of_ble_eq_true rfl) (Nat.le_of_ble_eq_true rfl)) (fun _ h7 hf => ?_)
            refine s_aload_n C dX8_readEither_40 rfl ?_
            refine s_bipush C dX8_readEither_41 (v := (-21 : Int32)) (by decide) ?_
            refine s_callV (rvf := fun _ => none) (st := []) (fr := 0) (lo := 0) (mc := 0) (ms := 0) C [8] wc_X8_emit wml_X8_63 wim_X8_emit wsl_8_X8_emit dX8_readEither_43 (As := [.inl (-21 : Int32)]) rfl hf (fun x h' hF => c_X8_emit _ _ _ _ _ (x, h') hF) rfl (Nat.le_of_ble_eq_true rfl) (room_ok hX (by omega) (by omega)) (cell_ok hX (Nat.le_of_ble_eq_true rfl) (Nat.le_of_ble_eq_true rfl)) (fun _ h8 hf => ?_)
            refine s_iinc C dX8_readEither_46 (v := (x2 + 1)) rfl rfl (by decide) (nc_i rfl) (lv' := [some (rB (xD X).1 o), some (.int a1), some (.int (x2 + 1))]) rfl ?_
            refine s_goto (tgt := 7) C dX8_readEither_49 (by decide) ?_
            exact ih7 _ _ hf
  exact k7 lpN _ _ hf
set_option maxRecDepth 100000 in
set_option maxHeartbeats 4000000 in
theorem cs_X8_readOne (l : Launch) (D : DT) (nS : Nat) (ih : PG_X8_readBoth l D nS) : ∀ (p0 : Option Nat) (p1 : Int32) (h : AH) (r : Unit × AH), G_X8_readBoth (nS + 1) 3 p0 p1 h = some r → CM l D yX8_readOne cX8_readOne 4 none (2 + (nS + 1)) (41 + 60 * (nS + 1)) 0 0 [.inr (.inr p0), .inl p1] h none r.2 := by
  unfold PG_X8_readBoth at ih
  intro o a1 h r hf
  rw [eq_G_X8_readBoth] at hf
  have hf : fb_X8_readOne (G_X8_readBoth nS) o a1 h = some r := (if_pos rfl).symm.trans ((if_neg (by decide)).symm.trans ((if_neg (by decide)).symm.trans ((if_neg (by decide)).symm.trans (hf))))
  refine CM.of (by decide) (Nat.le_of_ble_eq_true rfl) (fun X hl C hD hX hnm E => ?_)
  subst hl
  subst hD
  have C : CX X RX8 cX8_readOne 4 := C
  show WW X h 0 0 0 [some (rB (xD X).1 o), some (.int a1), none, none] []
  unfold fb_X8_readOne at hf
  refine s_iconst C dX8_readOne_0 (v := (0 : Int32)) (by decide) ?_
  refine s_istore_n C dX8_readOne_1 (by decide) (nc_i rfl) (lv' := [some (rB (xD X).1 o), some (.int a1), some (.int (0 : Int32)), none]) rfl ?_
  refine s_lp2 hf (fun G2 z2 q2 hf => ?_)
  have k2 : ∀ (n : Nat) (x1 : Int32) (h2 : AH), G2 n x1 h2 = some r → WW X h2 0 0 2 [some (rB (xD X).1 o), some (.int a1), some (.int x1), none] [] := by
    intro n
    induction n with
    | zero =>
      intro x1 h2 hf
      rw [z2] at hf
      cases hf
    | succ n ih2 =>
      intro x1 h2 hf
      have hf := (q2 n x1 h2).symm.trans hf
      refine s_iload_n C dX8_readOne_2 rfl ?_
      refine s_bipush C dX8_readOne_3 (v := (6 : Int32)) (by decide) ?_
      refine s_jn hf (fun j33 e33 hf => ?_)
      have k33 : ∀ (h3 : AH), j33 h3 = some r → WW X h3 0 0 33 [some (rB (xD X).1 o), some (.int a1), some (.int x1), none] [] := by
        intro h3 hf
        rw [e33] at hf
        refine s_aload_n C dX8_readOne_33 rfl ?_
        refine s_getI C fl_X8_47 dX8_readOne_34 hf (fun v4 hf => ?_)
        refine s_iconst C dX8_readOne_37 (v := (2 : Int32)) (by decide) ?_
        refine s_jn hf (fun j110 e110 hf => ?_)
        have k110 : ∀ (h5 : AH), j110 h5 = some r → WW X h5 0 0 110 [some (rB (xD X).1 o), none, some (.int x1), none] [] := by
          intro h5 hf
          rw [e110] at hf
          refine s_iconst C dX8_readOne_110 (v := (0 : Int32)) (by decide) ?_
          refine s_istore_n C dX8_readOne_111 (by decide) (nc_i rfl) (lv' := [some (rB (xD X).1 o), none, some (.int x1), some (.int (0 : Int32))]) rfl ?_
          refine s_lp3 hf (fun G112 z112 q112 hf => ?_)
          have k112 : ∀ (n : Nat) (x6 : Int32) (x7 : Int32) (h8 : AH), G112 n x6 x7 h8 = some r → WW X h8 0 0 112 [some (rB (xD X).1 o), none, some (.int x6), some (.int x7)] [] := by
            intro n
            induction n with
            | zero =>
              intro x6 x7 h8 hf
              rw [z112] at hf
              cases hf
            | succ n ih112 =>
              intro x6 x7 h8 hf
              have hf := (q112 n x6 x7 h8).symm.trans hf
              refine s_iload_n C dX8_readOne_112 rfl ?_
              refine s_iload_n C dX8_readOne_113 rfl ?_
              refine s_icmp_ge (tgt := 129) C dX8_readOne_114 (by decide) hf (fun hf => ?_) (fun hf => ?_)
              · exact s_return C E dX8_readOne_129 hf (Nat.le_of_ble_eq_true rfl) (Nat.le_of_ble_eq_true rfl)
              · refine s_aload_n C dX8_readOne_117 rfl ?_
                refine s_bipush C dX8_readOne_118 (v := (-31 : Int32)) (by decide) ?_
                refine s_callV (rvf := fun _ => none) (st := []) (fr := 0) (lo := 0) (mc := 0) (ms := 0) C [8] wc_X8_emit wml_X8_63 wim_X8_emit wsl_8_X8_emit dX8_readOne_120 (As := [.inl (-31 : Int32)]) rfl hf (fun x h' hF => c_X8_emit _ _ _ _ _ (x, h') hF) rfl (Nat.le_of_ble_eq_true rfl) (room_ok hX (by omega) (by omega)) (cell_ok hX (Nat.le_of_ble_eq_true rfl) (Nat.le_of_ble_eq_true rfl)) (fun _ h9 hf => ?_)
                refine s_iinc C dX8_readOne_123 (v := (x7 + 1)) rfl rfl (by decide) (nc_i rfl) (lv' := [some (rB (xD X).1 o), none, some (.int x6), some (.int (x7 + 1))]) rfl ?_
                refine s_goto (tgt := 112) C dX8_readOne_126 (by decide) ?_
                exact ih112 _ _ _ hf
          exact k112 lpN _ _ _ hf
        refine s_jn hf (fun j49 e49 hf => ?_)
        have k49 : j49  = some r → WW X h3 0 0 49 [some (rB (xD X).1 o), none, some (.int x1), none] [] := by
          intro  hf
          rw [e49] at hf
          refine s_aload_n C dX8_readOne_49 rfl ?_
          refine s_aload_n C dX8_readOne_50 rfl ?_
          refine s_getR C fl_X8_19 dX8_readOne_51 hf (fun v10 hf => ?_)
          refine s_aload_n C dX8_readOne_54 rfl ?_
          refine s_getI C fl_X8_44 dX8_readOne_55 hf (fun v11 hf => ?_)
          refine s_iaload C dX8_readOne_58 hf (fun v12 hf => ?_)
          refine s_callV (rvf := fun _ => none) (st := []) (fr := 0) (lo := 0) (mc := 0) (ms := 0) C [8] wc_X8_emit wml_X8_63 wim_X8_emit wsl_8_X8_emit dX8_readOne_59 (As := [.inl v12]) rfl hf (fun x h' hF => c_X8_emit _ _ _ _ _ (x, h') hF) rfl (Nat.le_of_ble_eq_true rfl) (room_ok hX (by omega) (by omega)) (cell_ok hX (Nat.le_of_ble_eq_true rfl) (Nat.le_of_ble_eq_true rfl)) (fun _ h13 hf => ?_)
          refine s_aload_n C dX8_readOne_62 rfl ?_
          refine s_callV (rvf := fun _ => none) (st := []) (fr := 0) (lo := 0) (mc := 0) (ms := 0) C [8] wc_X8_advance wml_X8_53 wim_X8_advance wsl_8_X8_advance dX8_readOne_63 (As := []) rfl hf (fun x h' hF => c_X8_advance _ _ _ _ (x, h') hF) rfl (Nat.le_of_ble_eq_true rfl) (room_ok hX (by omega) (by omega)) (cell_ok hX (Nat.le_of_ble_eq_true rfl) (Nat.le_of_ble_eq_true rfl)) (fun _ h14 hf => ?_)
          refine s_goto (tgt := 110) C dX8_readOne_66 (by decide) ?_
          exact k110 _ hf
        refine s_icmp_eq (tgt := 49) C dX8_readOne_38 (by decide) hf (fun hf => ?_) (fun hf => ?_)
        · refine s_weak (lv' := [some (rB (xD X).1 o), none, some (.int x1), none]) ⟨rfl, ⟨rfl, trivial⟩⟩ ?_
          exact k49 hf
        · refine s_aload_n C dX8_readOne_41 rfl ?_
          refine s_getI C fl_X8_47 dX8_readOne_42 hf (fun v15 hf => ?_)
          refine s_iconst C dX8_readOne_45 (v := (3 : Int32)) (by decide) ?_
          refine s_icmp_ne (tgt := 69) C dX8_readOne_46 (by decide) hf (fun hf => ?_) (fun hf => ?_)
          · refine s_aload_n C dX8_readOne_69 rfl ?_
            refine s_getI C fl_X8_47 dX8_readOne_70 hf (fun v16 hf => ?_)
            refine s_bipush C dX8_readOne_73 (v := (40 : Int32)) (by decide) ?_
            refine s_jn hf (fun j106 e106 hf => ?_)
            have k106 : ∀ (h17 : AH), j106 h17 = some r → WW X h17 0 0 106 [some (rB (xD X).1 o), none, some (.int x1), none] [] := by
              intro h17 hf
              rw [e106] at hf
              refine s_aload_n C dX8_readOne_106 rfl ?_
              refine s_callV (rvf := fun _ => none) (st := []) (fr := 0) (lo := 0) (mc := 0) (ms := 0) C [8] wc_X8_blame wml_X8_56 wim_X8_blame wsl_8_X8_blame dX8_readOne_107 (As := []) rfl hf (fun x h' hF => c_X8_blame _ _ _ _ (x, h') hF) rfl (Nat.le_of_ble_eq_true rfl) (room_ok hX (by omega) (by omega)) (cell_ok hX (Nat.le_of_ble_eq_true rfl) (Nat.le_of_ble_eq_true rfl)) (fun _ h18 hf => ?_)
              exact k110 _ hf
            refine s_icmp_ne (tgt := 106) C dX8_readOne_75 (by decide) hf (fun hf => ?_) (fun hf => ?_)
            · refine s_weak (lv' := [some (rB (xD X).1 o), none, some (.int x1), none]) ⟨rfl, ⟨rfl, trivial⟩⟩ ?_
              exact k106 _ hf
            · refine s_aload_n C dX8_readOne_78 rfl ?_
              refine s_iload_n C dX8_readOne_79 rfl ?_
              refine s_iload_n C dX8_readOne_80 rfl ?_
              refine s_iadd C dX8_readOne_81 ?_
              refine s_callV (rvf := fun x => some (.int x)) (st := []) (fr := 1) (lo := 20) (mc := 0) (ms := 0) C [8] wc_X8_mayOpen wml_X8_75 wim_X8_mayOpen wsl_8_X8_mayOpen dX8_readOne_82 (As := [.inl (a1 + x1)]) rfl hf (fun x h' hF => c_X8_mayOpen _ _ _ _ _ (x, h') hF) rfl (Nat.le_of_ble_eq_true rfl) (room_ok hX (by omega) (by omega)) (cell_ok hX (Nat.le_of_ble_eq_true rfl) (Nat.le_of_ble_eq_true rfl)) (fun v20 h19 hf => ?_)
              refine s_if_eq (tgt := 106) C dX8_readOne_85 (by decide) hf (fun hf => ?_) (fun hf => ?_)
              · refine s_weak (lv' := [some (rB (xD X).1 o), none, some (.int x1), none]) ⟨rfl, ⟨rfl, trivial⟩⟩ ?_
                exact k106 _ hf
              · refine s_aload_n C dX8_readOne_88 rfl ?_
                refine s_iload_n C dX8_readOne_89 rfl ?_
                refine s_iload_n C dX8_readOne_90 rfl ?_
                refine s_iadd C dX8_readOne_91 ?_
                refine s_iconst C dX8_readOne_92 (v := (1 : Int32)) (by decide) ?_
                refine s_iadd C dX8_readOne_93 ?_
                refine s_callV (rvf := fun _ => none) (st := []) (fr := (2 + nS)) (lo := (41 + 60 * nS)) (mc := 0) (ms := 0) C [8] wc_X8_readEither wml_X8_59 wim_X8_readEither wsl_8_X8_readEither dX8_readOne_94 (As := [.inl ((a1 + x1) + (1 : Int32))]) rfl hf (fun x h' hF => ih.2.2.1 o ((a1 + x1) + (1 : Int32)) h19 (x, h') hF) rfl (Nat.le_of_ble_eq_true rfl) (room_ok hX (by omega) (by omega)) (cell_ok hX (Nat.le_of_ble_eq_true rfl) (Nat.le_of_ble_eq_true rfl)) (fun _ h21 hf => ?_)
                refine s_aload_n C dX8_readOne_97 rfl ?_
                refine s_bipush C dX8_readOne_98 (v := (41 : Int32)) (by decide) ?_
                refine s_callV (rvf := fun _ => none) (st := []) (fr := 1) (lo := 20) (mc := 0) (ms := 0) C [8] wc_X8_expect wml_X8_66 wim_X8_expect wsl_8_X8_expect dX8_readOne_100 (As := [.inl (41 : Int32)]) rfl hf (fun x h' hF => c_X8_expect _ _ _ _ _ (x, h') hF) rfl (Nat.le_of_ble_eq_true rfl) (room_ok hX (by omega) (by omega)) (cell_ok hX (Nat.le_of_ble_eq_true rfl) (Nat.le_of_ble_eq_true rfl)) (fun _ h22 hf => ?_)
                refine s_goto (tgt := 110) C dX8_readOne_103 (by decide) ?_
                refine s_weak (lv' := [some (rB (xD X).1 o), none, some (.int x1), none]) ⟨rfl, ⟨rfl, trivial⟩⟩ ?_
                exact k110 _ hf
          · refine s_weak (lv' := [some (rB (xD X).1 o), none, some (.int x1), none]) ⟨rfl, ⟨rfl, trivial⟩⟩ ?_
            exact k49 hf
      refine s_icmp_gt (tgt := 33) C dX8_readOne_5 (by decide) hf (fun hf => ?_) (fun hf => ?_)
      · exact k33 _ hf
      · refine s_aload_n C dX8_readOne_8 rfl ?_
        refine s_getI C fl_X8_47 dX8_readOne_9 hf (fun v23 hf => ?_)
        refine s_bipush C dX8_readOne_12 (v := (45 : Int32)) (by decide) ?_
        refine s_icmp_ne (tgt := 33) C dX8_readOne_14 (by decide) hf (fun hf => ?_) (fun hf => ?_)
        · exact k33 _ hf
        · refine s_aload_n C dX8_readOne_17 rfl ?_
          refine s_iload_n C dX8_readOne_18 rfl ?_
          refine s_iload_n C dX8_readOne_19 rfl ?_
          refine s_iadd C dX8_readOne_20 ?_
          refine s_callV (rvf := fun x => some (.int x)) (st := []) (fr := 1) (lo := 20) (mc := 0) (ms := 0) C [8] wc_X8_mayOpen wml_X8_75 wim_X8_mayOpen wsl_8_X8_mayOpen dX8_readOne_21 (As := [.inl (a1 + x1)]) rfl hf (fun x h' hF => c_X8_mayOpen _ _ _ _ _ (x, h') hF) rfl (Nat.le_of_ble_eq_true rfl) (room_ok hX (by omega) (by omega)) (cell_ok hX (Nat.le_of_ble_eq_true rfl) (Nat.le_of_ble_eq_true rfl)) (fun v25 h24 hf => ?_)
          refine s_if_eq (tgt := 33) C dX8_readOne_24 (by decide) hf (fun hf => ?_) (fun hf => ?_)
          · exact k33 _ hf
          · refine s_iinc C dX8_readOne_27 (v := (x1 + 1)) rfl rfl (by decide) (nc_i rfl) (lv' := [some (rB (xD X).1 o), some (.int a1), some (.int (x1 + 1)), none]) rfl ?_
            refine s_goto (tgt := 2) C dX8_readOne_30 (by decide) ?_
            exact ih2 _ _ hf
  exact k2 lpN _ _ hf
set_option maxRecDepth 100000 in
set_option maxHeartbeats 4000000 in
theorem cs_X8_readProduct (l : Launch) (D : DT) (nS : Nat) (ih : PG_X8_readBoth l D nS) : ∀ (p0 : Option Nat) (p1 : Int32) (h : AH) (r : Unit × AH), G_X8_readBoth (nS + 1) 4 p0 p1 h = some r → CM l D yX8_readProduct cX8_readProduct 4 none (2 + (nS + 1)) (41 + 60 * (nS + 1)) 0 0 [.inr (.inr p0), .inl p1] h none r.2 := by
  unfold PG_X8_readBoth at ih
  intro o a1 h r hf
  rw [eq_G_X8_readBoth] at hf
  have hf : fb_X8_readProduct (G_X8_readBoth nS) o a1 h = some r := (if_pos rfl).symm.trans ((if_neg (by decide)).symm.trans ((if_neg (by decide)).symm.trans ((if_neg (by decide)).symm.trans ((if_neg (by decide)).symm.trans (hf)))))
  refine CM.of (by decide) (Nat.le_of_ble_eq_true rfl) (fun X hl C hD hX hnm E => ?_)
  subst hl
  subst hD
  have C : CX X RX8 cX8_readProduct 4 := C
  show WW X h 0 0 0 [some (rB (xD X).1 o), some (.int a1), none, none] []
  unfold fb_X8_readProduct at hf
  refine s_aload_n C dX8_readProduct_0 rfl ?_
  refine s_iload_n C dX8_readProduct_1 rfl ?_
  refine s_callV (rvf := fun _ => none) (st := []) (fr := (2 + nS)) (lo := (41 + 60 * nS)) (mc := 0) (ms := 0) C [8] wc_X8_readOne wml_X8_85 wim_X8_readOne wsl_8_X8_readOne dX8_readProduct_2 (As := [.inl a1]) rfl hf (fun x h' hF => ih.2.2.2.1 o a1 h (x, h') hF) rfl (Nat.le_of_ble_eq_true rfl) (room_ok hX (by omega) (by omega)) (cell_ok hX (Nat.le_of_ble_eq_true rfl) (Nat.le_of_ble_eq_true rfl)) (fun _ h1 hf => ?_)
  refine s_iconst C dX8_readProduct_5 (v := (0 : Int32)) (by decide) ?_
  refine s_istore_n C dX8_readProduct_6 (by decide) (nc_i rfl) (lv' := [some (rB (xD X).1 o), some (.int a1), some (.int (0 : Int32)), none]) rfl ?_
  refine s_lp2 hf (fun G7 z7 q7 hf => ?_)
  have k7 : ∀ (n : Nat) (x2 : Int32) (h3 : AH), G7 n x2 h3 = some r → WW X h3 0 0 7 [some (rB (xD X).1 o), some (.int a1), some (.int x2), none] [] := by
    intro n
    induction n with
    | zero =>
      intro x2 h3 hf
      rw [z7] at hf
      cases hf
    | succ n ih7 =>
      intro x2 h3 hf
      have hf := (q7 n x2 h3).symm.trans hf
      refine s_iload_n C dX8_readProduct_7 rfl ?_
      refine s_sipush C dX8_readProduct_8 (v := (160 : Int32)) (by decide) ?_
      refine s_jn hf (fun j99 e99 hf => ?_)
      have k99 : j99  = some r → WW X h3 0 0 99 [none, none, none, none] [] := by
        intro  hf
        rw [e99] at hf
        exact s_return C E dX8_readProduct_99 hf (Nat.le_of_ble_eq_true rfl) (Nat.le_of_ble_eq_true rfl)
      refine s_icmp_ge (tgt := 99) C dX8_readProduct_11 (by decide) hf (fun hf => ?_) (fun hf => ?_)
      · refine s_weak (lv' := [none, none, none, none]) trivial ?_
        exact k99 hf
      · refine s_aload_n C dX8_readProduct_14 rfl ?_
        refine s_getI C fl_X8_41 dX8_readProduct_15 hf (fun v4 hf => ?_)
        refine s_if_ge (tgt := 99) C dX8_readProduct_18 (by decide) hf (fun hf => ?_) (fun hf => ?_)
        · refine s_weak (lv' := [none, none, none, none]) trivial ?_
          exact k99 hf
        · refine s_aload_n C dX8_readProduct_21 rfl ?_
          refine s_getI C fl_X8_47 dX8_readProduct_22 hf (fun v5 hf => ?_)
          refine s_bipush C dX8_readProduct_25 (v := (42 : Int32)) (by decide) ?_
          refine s_jn hf (fun j48 e48 hf => ?_)
          have k48 : j48  = some r → WW X h3 0 0 48 [some (rB (xD X).1 o), some (.int a1), some (.int x2), none] [] := by
            intro  hf
            rw [e48] at hf
            refine s_aload_n C dX8_readProduct_48 rfl ?_
            refine s_getI C fl_X8_47 dX8_readProduct_49 hf (fun v6 hf => ?_)
            refine s_bipush C dX8_readProduct_52 (v := (42 : Int32)) (by decide) ?_
            refine s_jn hf (fun j78 e78 hf => ?_)
            have k78 : ∀ (x7 : Int32), j78 x7 = some r → WW X h3 0 0 78 [some (rB (xD X).1 o), some (.int a1), some (.int x2), none] [.int x7] := by
              intro x7 hf
              rw [e78] at hf
              refine s_istore_n C dX8_readProduct_78 (by decide) (nc_i rfl) (lv' := [some (rB (xD X).1 o), some (.int a1), some (.int x2), some (.int x7)]) rfl ?_
              refine s_aload_n C dX8_readProduct_79 rfl ?_
              refine s_callV (rvf := fun _ => none) (st := []) (fr := 0) (lo := 0) (mc := 0) (ms := 0) C [8] wc_X8_advance wml_X8_53 wim_X8_advance wsl_8_X8_advance dX8_readProduct_80 (As := []) rfl hf (fun x h' hF => c_X8_advance _ _ _ _ (x, h') hF) rfl (Nat.le_of_ble_eq_true rfl) (room_ok hX (by omega) (by omega)) (cell_ok hX (Nat.le_of_ble_eq_true rfl) (Nat.le_of_ble_eq_true rfl)) (fun _ h8 hf => ?_)
              refine s_aload_n C dX8_readProduct_83 rfl ?_
              refine s_iload_n C dX8_readProduct_84 rfl ?_
              refine s_callV (rvf := fun _ => none) (st := []) (fr := (2 + nS)) (lo := (41 + 60 * nS)) (mc := 0) (ms := 0) C [8] wc_X8_readOne wml_X8_85 wim_X8_readOne wsl_8_X8_readOne dX8_readProduct_85 (As := [.inl a1]) rfl hf (fun x h' hF => ih.2.2.2.1 o a1 h8 (x, h') hF) rfl (Nat.le_of_ble_eq_true rfl) (room_ok hX (by omega) (by omega)) (cell_ok hX (Nat.le_of_ble_eq_true rfl) (Nat.le_of_ble_eq_true rfl)) (fun _ h9 hf => ?_)
              refine s_aload_n C dX8_readProduct_88 rfl ?_
              refine s_iload_n C dX8_readProduct_89 rfl ?_
              refine s_callV (rvf := fun _ => none) (st := []) (fr := 0) (lo := 0) (mc := 0) (ms := 0) C [8] wc_X8_emit wml_X8_63 wim_X8_emit wsl_8_X8_emit dX8_readProduct_90 (As := [.inl x7]) rfl hf (fun x h' hF => c_X8_emit _ _ _ _ _ (x, h') hF) rfl (Nat.le_of_ble_eq_true rfl) (room_ok hX (by omega) (by omega)) (cell_ok hX (Nat.le_of_ble_eq_true rfl) (Nat.le_of_ble_eq_true rfl)) (fun _ h10 hf => ?_)
              refine s_iinc C dX8_readProduct_93 (v := (x2 + 1)) rfl rfl (by decide) (nc_i rfl) (lv' := [some (rB (xD X).1 o), some (.int a1), some (.int (x2 + 1)), some (.int x7)]) rfl ?_
              refine s_goto (tgt := 7) C dX8_readProduct_96 (by decide) ?_
              refine s_weak (lv' := [some (rB (xD X).1 o), some (.int a1), some (.int (x2 + 1)), none]) ⟨rfl, ⟨rfl, ⟨rfl, trivial⟩⟩⟩ ?_
              exact ih7 _ _ hf
            refine s_icmp_ne (tgt := 62) C dX8_readProduct_54 (by decide) hf (fun hf => ?_) (fun hf => ?_)
            · refine s_aload_n C dX8_readProduct_62 rfl ?_
              refine s_getI C fl_X8_47 dX8_readProduct_63 hf (fun v11 hf => ?_)
              refine s_bipush C dX8_readProduct_66 (v := (47 : Int32)) (by decide) ?_
              refine s_icmp_ne (tgt := 76) C dX8_readProduct_68 (by decide) hf (fun hf => ?_) (fun hf => ?_)
              · refine s_bipush C dX8_readProduct_76 (v := (-30 : Int32)) (by decide) ?_
                exact k78 _ hf
              · refine s_bipush C dX8_readProduct_71 (v := (-29 : Int32)) (by decide) ?_
                refine s_goto (tgt := 78) C dX8_readProduct_73 (by decide) ?_
                exact k78 _ hf
            · refine s_bipush C dX8_readProduct_57 (v := (-28 : Int32)) (by decide) ?_
              refine s_goto (tgt := 78) C dX8_readProduct_59 (by decide) ?_
              exact k78 _ hf
          refine s_icmp_eq (tgt := 48) C dX8_readProduct_27 (by decide) hf (fun hf => ?_) (fun hf => ?_)
          · exact k48 hf
          · refine s_aload_n C dX8_readProduct_30 rfl ?_
            refine s_getI C fl_X8_47 dX8_readProduct_31 hf (fun v12 hf => ?_)
            refine s_bipush C dX8_readProduct_34 (v := (47 : Int32)) (by decide) ?_
            refine s_icmp_eq (tgt := 48) C dX8_readProduct_36 (by decide) hf (fun hf => ?_) (fun hf => ?_)
            · exact k48 hf
            · refine s_aload_n C dX8_readProduct_39 rfl ?_
              refine s_getI C fl_X8_47 dX8_readProduct_40 hf (fun v13 hf => ?_)
              refine s_bipush C dX8_readProduct_43 (v := (37 : Int32)) (by decide) ?_
              refine s_icmp_ne (tgt := 99) C dX8_readProduct_45 (by decide) hf (fun hf => ?_) (fun hf => ?_)
              · refine s_weak (lv' := [none, none, none, none]) trivial ?_
                exact k99 hf
              · exact k48 hf
  exact k7 lpN _ _ hf
set_option maxRecDepth 100000 in
set_option maxHeartbeats 4000000 in
theorem cs_X8_readSum (l : Launch) (D : DT) (nS : Nat) (ih : PG_X8_readBoth l D nS) : ∀ (p0 : Option Nat) (p1 : Int32) (h : AH) (r : Unit × AH), G_X8_readBoth (nS + 1) 5 p0 p1 h = some r → CM l D yX8_readSum cX8_readSum 4 none (2 + (nS + 1)) (41 + 60 * (nS + 1)) 0 0 [.inr (.inr p0), .inl p1] h none r.2 := by
  unfold PG_X8_readBoth at ih
  intro o a1 h r hf
  rw [eq_G_X8_readBoth] at hf
  have hf : fb_X8_readSum (G_X8_readBoth nS) o a1 h = some r := (if_neg (by decide)).symm.trans ((if_neg (by decide)).symm.trans ((if_neg (by decide)).symm.trans ((if_neg (by decide)).symm.trans ((if_neg (by decide)).symm.trans (hf)))))
  refine CM.of (by decide) (Nat.le_of_ble_eq_true rfl) (fun X hl C hD hX hnm E => ?_)
  subst hl
  subst hD
  have C : CX X RX8 cX8_readSum 4 := C
  show WW X h 0 0 0 [some (rB (xD X).1 o), some (.int a1), none, none] []
  unfold fb_X8_readSum at hf
  refine s_aload_n C dX8_readSum_0 rfl ?_
  refine s_iload_n C dX8_readSum_1 rfl ?_
  refine s_callV (rvf := fun _ => none) (st := []) (fr := (2 + nS)) (lo := (41 + 60 * nS)) (mc := 0) (ms := 0) C [8] wc_X8_readProduct wml_X8_82 wim_X8_readProduct wsl_8_X8_readProduct dX8_readSum_2 (As := [.inl a1]) rfl hf (fun x h' hF => ih.2.2.2.2.1 o a1 h (x, h') hF) rfl (Nat.le_of_ble_eq_true rfl) (room_ok hX (by omega) (by omega)) (cell_ok hX (Nat.le_of_ble_eq_true rfl) (Nat.le_of_ble_eq_true rfl)) (fun _ h1 hf => ?_)
  refine s_iconst C dX8_readSum_5 (v := (0 : Int32)) (by decide) ?_
  refine s_istore_n C dX8_readSum_6 (by decide) (nc_i rfl) (lv' := [some (rB (xD X).1 o), some (.int a1), some (.int (0 : Int32)), none]) rfl ?_
  refine s_lp2 hf (fun G7 z7 q7 hf => ?_)
  have k7 : ∀ (n : Nat) (x2 : Int32) (h3 : AH), G7 n x2 h3 = some r → WW X h3 0 0 7 [some (rB (xD X).1 o), some (.int a1), some (.int x2), none] [] := by
    intro n
    induction n with
    | zero =>
      intro x2 h3 hf
      rw [z7] at hf
      cases hf
    | succ n ih7 =>
      intro x2 h3 hf
      have hf := (q7 n x2 h3).symm.trans hf
      refine s_iload_n C dX8_readSum_7 rfl ?_
      refine s_sipush C dX8_readSum_8 (v := (160 : Int32)) (by decide) ?_
      refine s_jn hf (fun j76 e76 hf => ?_)
      have k76 : j76  = some r → WW X h3 0 0 76 [none, none, none, none] [] := by
        intro  hf
        rw [e76] at hf
        exact s_return C E dX8_readSum_76 hf (Nat.le_of_ble_eq_true rfl) (Nat.le_of_ble_eq_true rfl)
      refine s_icmp_ge (tgt := 76) C dX8_readSum_11 (by decide) hf (fun hf => ?_) (fun hf => ?_)
      · refine s_weak (lv' := [none, none, none, none]) trivial ?_
        exact k76 hf
      · refine s_aload_n C dX8_readSum_14 rfl ?_
        refine s_getI C fl_X8_41 dX8_readSum_15 hf (fun v4 hf => ?_)
        refine s_if_ge (tgt := 76) C dX8_readSum_18 (by decide) hf (fun hf => ?_) (fun hf => ?_)
        · refine s_weak (lv' := [none, none, none, none]) trivial ?_
          exact k76 hf
        · refine s_aload_n C dX8_readSum_21 rfl ?_
          refine s_getI C fl_X8_47 dX8_readSum_22 hf (fun v5 hf => ?_)
          refine s_bipush C dX8_readSum_25 (v := (43 : Int32)) (by decide) ?_
          refine s_jn hf (fun j39 e39 hf => ?_)
          have k39 : j39  = some r → WW X h3 0 0 39 [some (rB (xD X).1 o), some (.int a1), some (.int x2), none] [] := by
            intro  hf
            rw [e39] at hf
            refine s_aload_n C dX8_readSum_39 rfl ?_
            refine s_getI C fl_X8_47 dX8_readSum_40 hf (fun v6 hf => ?_)
            refine s_bipush C dX8_readSum_43 (v := (43 : Int32)) (by decide) ?_
            refine s_jn hf (fun j55 e55 hf => ?_)
            have k55 : ∀ (x7 : Int32), j55 x7 = some r → WW X h3 0 0 55 [some (rB (xD X).1 o), some (.int a1), some (.int x2), none] [.int x7] := by
              intro x7 hf
              rw [e55] at hf
              refine s_istore_n C dX8_readSum_55 (by decide) (nc_i rfl) (lv' := [some (rB (xD X).1 o), some (.int a1), some (.int x2), some (.int x7)]) rfl ?_
              refine s_aload_n C dX8_readSum_56 rfl ?_
              refine s_callV (rvf := fun _ => none) (st := []) (fr := 0) (lo := 0) (mc := 0) (ms := 0) C [8] wc_X8_advance wml_X8_53 wim_X8_advance wsl_8_X8_advance dX8_readSum_57 (As := []) rfl hf (fun x h' hF => c_X8_advance _ _ _ _ (x, h') hF) rfl (Nat.le_of_ble_eq_true rfl) (room_ok hX (by omega) (by omega)) (cell_ok hX (Nat.le_of_ble_eq_true rfl) (Nat.le_of_ble_eq_true rfl)) (fun _ h8 hf => ?_)
              refine s_aload_n C dX8_readSum_60 rfl ?_
              refine s_iload_n C dX8_readSum_61 rfl ?_
              refine s_callV (rvf := fun _ => none) (st := []) (fr := (2 + nS)) (lo := (41 + 60 * nS)) (mc := 0) (ms := 0) C [8] wc_X8_readProduct wml_X8_82 wim_X8_readProduct wsl_8_X8_readProduct dX8_readSum_62 (As := [.inl a1]) rfl hf (fun x h' hF => ih.2.2.2.2.1 o a1 h8 (x, h') hF) rfl (Nat.le_of_ble_eq_true rfl) (room_ok hX (by omega) (by omega)) (cell_ok hX (Nat.le_of_ble_eq_true rfl) (Nat.le_of_ble_eq_true rfl)) (fun _ h9 hf => ?_)
              refine s_aload_n C dX8_readSum_65 rfl ?_
              refine s_iload_n C dX8_readSum_66 rfl ?_
              refine s_callV (rvf := fun _ => none) (st := []) (fr := 0) (lo := 0) (mc := 0) (ms := 0) C [8] wc_X8_emit wml_X8_63 wim_X8_emit wsl_8_X8_emit dX8_readSum_67 (As := [.inl x7]) rfl hf (fun x h' hF => c_X8_emit _ _ _ _ _ (x, h') hF) rfl (Nat.le_of_ble_eq_true rfl) (room_ok hX (by omega) (by omega)) (cell_ok hX (Nat.le_of_ble_eq_true rfl) (Nat.le_of_ble_eq_true rfl)) (fun _ h10 hf => ?_)
              refine s_iinc C dX8_readSum_70 (v := (x2 + 1)) rfl rfl (by decide) (nc_i rfl) (lv' := [some (rB (xD X).1 o), some (.int a1), some (.int (x2 + 1)), some (.int x7)]) rfl ?_
              refine s_goto (tgt := 7) C dX8_readSum_73 (by decide) ?_
              refine s_weak (lv' := [some (rB (xD X).1 o), some (.int a1), some (.int (x2 + 1)), none]) ⟨rfl, ⟨rfl, ⟨rfl, trivial⟩⟩⟩ ?_
              exact ih7 _ _ hf
            refine s_icmp_ne (tgt := 53) C dX8_readSum_45 (by decide) hf (fun hf => ?_) (fun hf => ?_)
            · refine s_bipush C dX8_readSum_53 (v := (-27 : Int32)) (by decide) ?_
              exact k55 _ hf
            · refine s_bipush C dX8_readSum_48 (v := (-26 : Int32)) (by decide) ?_
              refine s_goto (tgt := 55) C dX8_readSum_50 (by decide) ?_
              exact k55 _ hf
          refine s_icmp_eq (tgt := 39) C dX8_readSum_27 (by decide) hf (fun hf => ?_) (fun hf => ?_)
          · exact k39 hf
          · refine s_aload_n C dX8_readSum_30 rfl ?_
            refine s_getI C fl_X8_47 dX8_readSum_31 hf (fun v11 hf => ?_)
            refine s_bipush C dX8_readSum_34 (v := (45 : Int32)) (by decide) ?_
            refine s_icmp_ne (tgt := 76) C dX8_readSum_36 (by decide) hf (fun hf => ?_) (fun hf => ?_)
            · refine s_weak (lv' := [none, none, none, none]) trivial ?_
              exact k76 hf
            · exact k39 hf
  exact k7 lpN _ _ hf
theorem c_G_X8_readBoth (l : Launch) (D : DT) : ∀ n : Nat, PG_X8_readBoth l D n := by
  intro n
  induction n with
  | zero =>
    unfold PG_X8_readBoth
    exact ⟨fun p0 p1 h r hf => (by cases hf), fun p0 p1 h r hf => (by cases hf), fun p0 p1 h r hf => (by cases hf), fun p0 p1 h r hf => (by cases hf), fun p0 p1 h r hf => (by cases hf), fun p0 p1 h r hf => (by cases hf)⟩
  | succ nS ih =>
    unfold PG_X8_readBoth
    exact ⟨cs_X8_readBoth l D nS ih, cs_X8_readDenied l D nS ih, cs_X8_readEither l D nS ih, cs_X8_readOne l D nS ih, cs_X8_readProduct l D nS ih, cs_X8_readSum l D nS ih⟩
theorem c_X8_readBoth (l : Launch) (D : DT) (o : Option Nat) (a1 : Int32) (h : AH) (r : Unit × AH) (hf : f_X8_readBoth o a1 h = some r) : CM l D yX8_readBoth cX8_readBoth 3 none 102 6041 0 0 [.inr (.inr o), .inl a1] h none r.2 := by
  have hc := (c_G_X8_readBoth l D (opq 100))
  unfold PG_X8_readBoth at hc
  have hc := hc.1 o a1 h r hf
  rw [opq_eq] at hc
  exact hc
theorem c_X8_readDenied (l : Launch) (D : DT) (o : Option Nat) (a1 : Int32) (h : AH) (r : Unit × AH) (hf : f_X8_readDenied o a1 h = some r) : CM l D yX8_readDenied cX8_readDenied 5 none 102 6041 0 0 [.inr (.inr o), .inl a1] h none r.2 := by
  have hc := (c_G_X8_readBoth l D (opq 100))
  unfold PG_X8_readBoth at hc
  have hc := hc.2.1 o a1 h r hf
  rw [opq_eq] at hc
  exact hc
theorem c_X8_readEither (l : Launch) (D : DT) (o : Option Nat) (a1 : Int32) (h : AH) (r : Unit × AH) (hf : f_X8_readEither o a1 h = some r) : CM l D yX8_readEither cX8_readEither 3 none 102 6041 0 0 [.inr (.inr o), .inl a1] h none r.2 := by
  have hc := (c_G_X8_readBoth l D (opq 100))
  unfold PG_X8_readBoth at hc
  have hc := hc.2.2.1 o a1 h r hf
  rw [opq_eq] at hc
  exact hc
theorem c_X8_readOne (l : Launch) (D : DT) (o : Option Nat) (a1 : Int32) (h : AH) (r : Unit × AH) (hf : f_X8_readOne o a1 h = some r) : CM l D yX8_readOne cX8_readOne 4 none 102 6041 0 0 [.inr (.inr o), .inl a1] h none r.2 := by
  have hc := (c_G_X8_readBoth l D (opq 100))
  unfold PG_X8_readBoth at hc
  have hc := hc.2.2.2.1 o a1 h r hf
  rw [opq_eq] at hc
  exact hc
theorem c_X8_readProduct (l : Launch) (D : DT) (o : Option Nat) (a1 : Int32) (h : AH) (r : Unit × AH) (hf : f_X8_readProduct o a1 h = some r) : CM l D yX8_readProduct cX8_readProduct 4 none 102 6041 0 0 [.inr (.inr o), .inl a1] h none r.2 := by
  have hc := (c_G_X8_readBoth l D (opq 100))
  unfold PG_X8_readBoth at hc
  have hc := hc.2.2.2.2.1 o a1 h r hf
  rw [opq_eq] at hc
  exact hc
theorem c_X8_readSum (l : Launch) (D : DT) (o : Option Nat) (a1 : Int32) (h : AH) (r : Unit × AH) (hf : f_X8_readSum o a1 h = some r) : CM l D yX8_readSum cX8_readSum 4 none 102 6041 0 0 [.inr (.inr o), .inl a1] h none r.2 := by
  have hc := (c_G_X8_readBoth l D (opq 100))
  unfold PG_X8_readBoth at hc
  have hc := hc.2.2.2.2.2 o a1 h r hf
  rw [opq_eq] at hc
  exact hc
/-- HillBoxes$Tape.readLine()V -/
noncomputable def f_X8_readLine (o : Option Nat) (h : AH) : Option (Unit × AH) :=
  fI h [8] o 6 fun v1 =>
  jn (fun (x2 : Int32) =>
    jn (fun (h3 : AH) =>
      rO h3 [8] o <| cl (f_X8_readEither o (0 : Int32) h3) fun _ h4 =>
      rO h4 [8] o <| cl (f_X8_emit o (-35 : Int32) h4) fun _ h5 =>
      some ((), h5)) fun j56 =>
    if x2 = 0 then
      j56 h
    else
      rO h [8] o <| cl (f_X8_advance o h) fun _ h6 =>
      rO h6 [8] o <| cl (f_X8_readEither o (0 : Int32) h6) fun _ h7 =>
      rO h7 [8] o <| cl (f_X8_emit o x2 h7) fun _ h8 =>
      rO h8 [8] o <| cl (f_X8_expect o (58 : Int32) h8) fun _ h9 =>
      j56 h9) fun j31 =>
  if v1 = (314 : Int32) then
    j31 (-33 : Int32)
  else
    fI h [8] o 6 fun v10 =>
    if v10 = (315 : Int32) then
      j31 (-34 : Int32)
    else
      j31 (0 : Int32)
set_option maxRecDepth 100000 in
set_option maxHeartbeats 4000000 in
theorem c_X8_readLine (l : Launch) (D : DT) (o : Option Nat) (h : AH) (r : Unit × AH) (hf : f_X8_readLine o h = some r) : CM l D yX8_readLine cX8_readLine 2 none 103 6063 0 0 [.inr (.inr o)] h none r.2 := by
  refine CM.of (by decide) (Nat.le_of_ble_eq_true rfl) (fun X hl C hD hX hnm E => ?_)
  subst hl
  subst hD
  have C : CX X RX8 cX8_readLine 2 := C
  show WW X h 0 0 0 [some (rB (xD X).1 o), none] []
  unfold f_X8_readLine at hf
  refine s_aload_n C dX8_readLine_0 rfl ?_
  refine s_getI C fl_X8_47 dX8_readLine_1 hf (fun v1 hf => ?_)
  refine s_sipush C dX8_readLine_4 (v := (314 : Int32)) (by decide) ?_
  refine s_jn hf (fun j31 e31 hf => ?_)
  have k31 : ∀ (x2 : Int32), j31 x2 = some r → WW X h 0 0 31 [some (rB (xD X).1 o), none] [.int x2] := by
    intro x2 hf
    rw [e31] at hf
    refine s_istore_n C dX8_readLine_31 (by decide) (nc_r rfl) (lv' := [some (rB (xD X).1 o), some (.int x2)]) rfl ?_
    refine s_iload_n C dX8_readLine_32 rfl ?_
    refine s_jn hf (fun j56 e56 hf => ?_)
    have k56 : ∀ (h3 : AH), j56 h3 = some r → WW X h3 0 0 56 [some (rB (xD X).1 o), none] [] := by
      intro h3 hf
      rw [e56] at hf
      refine s_aload_n C dX8_readLine_56 rfl ?_
      refine s_iconst C dX8_readLine_57 (v := (0 : Int32)) (by decide) ?_
      refine s_callV (rvf := fun _ => none) (st := []) (fr := 102) (lo := 6041) (mc := 0) (ms := 0) C [8] wc_X8_readEither wml_X8_59 wim_X8_readEither wsl_8_X8_readEither dX8_readLine_58 (As := [.inl (0 : Int32)]) rfl hf (fun x h' hF => c_X8_readEither _ _ _ _ _ (x, h') hF) rfl (Nat.le_of_ble_eq_true rfl) (room_ok hX (Nat.le_of_ble_eq_true rfl) (Nat.le_of_ble_eq_true rfl)) (cell_ok hX (Nat.le_of_ble_eq_true rfl) (Nat.le_of_ble_eq_true rfl)) (fun _ h4 hf => ?_)
      refine s_aload_n C dX8_readLine_61 rfl ?_
      refine s_bipush C dX8_readLine_62 (v := (-35 : Int32)) (by decide) ?_
      refine s_callV (rvf := fun _ => none) (st := []) (fr := 0) (lo := 0) (mc := 0) (ms := 0) C [8] wc_X8_emit wml_X8_63 wim_X8_emit wsl_8_X8_emit dX8_readLine_64 (As := [.inl (-35 : Int32)]) rfl hf (fun x h' hF => c_X8_emit _ _ _ _ _ (x, h') hF) rfl (Nat.le_of_ble_eq_true rfl) (room_ok hX (Nat.le_of_ble_eq_true rfl) (Nat.le_of_ble_eq_true rfl)) (cell_ok hX (Nat.le_of_ble_eq_true rfl) (Nat.le_of_ble_eq_true rfl)) (fun _ h5 hf => ?_)
      exact s_return C E dX8_readLine_67 hf (Nat.le_of_ble_eq_true rfl) (Nat.le_of_ble_eq_true rfl)
    refine s_if_eq (tgt := 56) C dX8_readLine_33 (by decide) hf (fun hf => ?_) (fun hf => ?_)
    · refine s_weak (lv' := [some (rB (xD X).1 o), none]) ⟨rfl, trivial⟩ ?_
      exact k56 _ hf
    · refine s_aload_n C dX8_readLine_36 rfl ?_
      refine s_callV (rvf := fun _ => none) (st := []) (fr := 0) (lo := 0) (mc := 0) (ms := 0) C [8] wc_X8_advance wml_X8_53 wim_X8_advance wsl_8_X8_advance dX8_readLine_37 (As := []) rfl hf (fun x h' hF => c_X8_advance _ _ _ _ (x, h') hF) rfl (Nat.le_of_ble_eq_true rfl) (room_ok hX (Nat.le_of_ble_eq_true rfl) (Nat.le_of_ble_eq_true rfl)) (cell_ok hX (Nat.le_of_ble_eq_true rfl) (Nat.le_of_ble_eq_true rfl)) (fun _ h6 hf => ?_)
      refine s_aload_n C dX8_readLine_40 rfl ?_
      refine s_iconst C dX8_readLine_41 (v := (0 : Int32)) (by decide) ?_
      refine s_callV (rvf := fun _ => none) (st := []) (fr := 102) (lo := 6041) (mc := 0) (ms := 0) C [8] wc_X8_readEither wml_X8_59 wim_X8_readEither wsl_8_X8_readEither dX8_readLine_42 (As := [.inl (0 : Int32)]) rfl hf (fun x h' hF => c_X8_readEither _ _ _ _ _ (x, h') hF) rfl (Nat.le_of_ble_eq_true rfl) (room_ok hX (Nat.le_of_ble_eq_true rfl) (Nat.le_of_ble_eq_true rfl)) (cell_ok hX (Nat.le_of_ble_eq_true rfl) (Nat.le_of_ble_eq_true rfl)) (fun _ h7 hf => ?_)
      refine s_aload_n C dX8_readLine_45 rfl ?_
      refine s_iload_n C dX8_readLine_46 rfl ?_
      refine s_callV (rvf := fun _ => none) (st := []) (fr := 0) (lo := 0) (mc := 0) (ms := 0) C [8] wc_X8_emit wml_X8_63 wim_X8_emit wsl_8_X8_emit dX8_readLine_47 (As := [.inl x2]) rfl hf (fun x h' hF => c_X8_emit _ _ _ _ _ (x, h') hF) rfl (Nat.le_of_ble_eq_true rfl) (room_ok hX (Nat.le_of_ble_eq_true rfl) (Nat.le_of_ble_eq_true rfl)) (cell_ok hX (Nat.le_of_ble_eq_true rfl) (Nat.le_of_ble_eq_true rfl)) (fun _ h8 hf => ?_)
      refine s_aload_n C dX8_readLine_50 rfl ?_
      refine s_bipush C dX8_readLine_51 (v := (58 : Int32)) (by decide) ?_
      refine s_callV (rvf := fun _ => none) (st := []) (fr := 1) (lo := 20) (mc := 0) (ms := 0) C [8] wc_X8_expect wml_X8_66 wim_X8_expect wsl_8_X8_expect dX8_readLine_53 (As := [.inl (58 : Int32)]) rfl hf (fun x h' hF => c_X8_expect _ _ _ _ _ (x, h') hF) rfl (Nat.le_of_ble_eq_true rfl) (room_ok hX (Nat.le_of_ble_eq_true rfl) (Nat.le_of_ble_eq_true rfl)) (cell_ok hX (Nat.le_of_ble_eq_true rfl) (Nat.le_of_ble_eq_true rfl)) (fun _ h9 hf => ?_)
      refine s_weak (lv' := [some (rB (xD X).1 o), none]) ⟨rfl, trivial⟩ ?_
      exact k56 _ hf
  refine s_icmp_ne (tgt := 15) C dX8_readLine_7 (by decide) hf (fun hf => ?_) (fun hf => ?_)
  · refine s_aload_n C dX8_readLine_15 rfl ?_
    refine s_getI C fl_X8_47 dX8_readLine_16 hf (fun v10 hf => ?_)
    refine s_sipush C dX8_readLine_19 (v := (315 : Int32)) (by decide) ?_
    refine s_icmp_ne (tgt := 30) C dX8_readLine_22 (by decide) hf (fun hf => ?_) (fun hf => ?_)
    · refine s_iconst C dX8_readLine_30 (v := (0 : Int32)) (by decide) ?_
      exact k31 _ hf
    · refine s_bipush C dX8_readLine_25 (v := (-34 : Int32)) (by decide) ?_
      refine s_goto (tgt := 31) C dX8_readLine_27 (by decide) ?_
      exact k31 _ hf
  · refine s_bipush C dX8_readLine_10 (v := (-33 : Int32)) (by decide) ?_
    refine s_goto (tgt := 31) C dX8_readLine_12 (by decide) ?_
    exact k31 _ hf
/-- HillBoxes$Tape.byteAt(I)I -/
noncomputable def f_X8_byteAt (o : Option Nat) (a1 : Int32) (h : AH) : Option (Int32 × AH) :=
  jn (fun (x1 : Int32) =>
    some (x1, h)) fun j29 =>
  jn (
    j29 (-1 : Int32)) fun j19 =>
  if a1 < 0 then
    j19
  else
    fI h [8] o 0 fun v2 =>
    if v2 ≤ a1 then
      j19
    else
      if a1 < (160 : Int32) then
        fR h [8] o 1 fun v3 =>
        aI h 20 v3 a1 fun v4 =>
        j29 v4
      else
        j19
set_option maxRecDepth 100000 in
set_option maxHeartbeats 4000000 in
theorem c_X8_byteAt (l : Launch) (D : DT) (o : Option Nat) (a1 : Int32) (h : AH) (r : Int32 × AH) (hf : f_X8_byteAt o a1 h = some r) : CM l D yX8_byteAt cX8_byteAt 2 (some .int) 0 0 0 0 [.inr (.inr o), .inl a1] h (some (.int r.1)) r.2 := by
  refine CM.of (by decide) (Nat.le_of_ble_eq_true rfl) (fun X hl C hD hX hnm E => ?_)
  subst hl
  subst hD
  have C : CX X RX8 cX8_byteAt 2 := C
  show WW X h 0 0 0 [some (rB (xD X).1 o), some (.int a1)] []
  unfold f_X8_byteAt at hf
  refine s_iload_n C dX8_byteAt_0 rfl ?_
  refine s_jn hf (fun j29 e29 hf => ?_)
  have k29 : ∀ (x1 : Int32), j29 x1 = some r → WW X h 0 0 29 [none, none] [.int x1] := by
    intro x1 hf
    rw [e29] at hf
    exact s_ireturn C E dX8_byteAt_29 hf (Nat.le_of_ble_eq_true rfl) (Nat.le_of_ble_eq_true rfl)
  refine s_jn hf (fun j19 e19 hf => ?_)
  have k19 : j19  = some r → WW X h 0 0 19 [none, none] [] := by
    intro  hf
    rw [e19] at hf
    refine s_iconst C dX8_byteAt_19 (v := (-1 : Int32)) (by decide) ?_
    refine s_goto (tgt := 29) C dX8_byteAt_20 (by decide) ?_
    exact k29 _ hf
  refine s_if_lt (tgt := 19) C dX8_byteAt_1 (by decide) hf (fun hf => ?_) (fun hf => ?_)
  · refine s_weak (lv' := [none, none]) trivial ?_
    exact k19 hf
  · refine s_iload_n C dX8_byteAt_4 rfl ?_
    refine s_aload_n C dX8_byteAt_5 rfl ?_
    refine s_getI C fl_X8_25 dX8_byteAt_6 hf (fun v2 hf => ?_)
    refine s_icmp_ge (tgt := 19) C dX8_byteAt_9 (by decide) hf (fun hf => ?_) (fun hf => ?_)
    · refine s_weak (lv' := [none, none]) trivial ?_
      exact k19 hf
    · refine s_iload_n C dX8_byteAt_12 rfl ?_
      refine s_sipush C dX8_byteAt_13 (v := (160 : Int32)) (by decide) ?_
      refine s_icmp_lt (tgt := 23) C dX8_byteAt_16 (by decide) hf (fun hf => ?_) (fun hf => ?_)
      · refine s_aload_n C dX8_byteAt_23 rfl ?_
        refine s_getR C fl_X8_9 dX8_byteAt_24 hf (fun v3 hf => ?_)
        refine s_iload_n C dX8_byteAt_27 rfl ?_
        refine s_iaload C dX8_byteAt_28 hf (fun v4 hf => ?_)
        refine s_weak (lv' := [none, none]) trivial ?_
        exact k29 _ hf
      · refine s_weak (lv' := [none, none]) trivial ?_
        exact k19 hf
/-- HillBoxes$Tape.isDigit(I)Z -/
noncomputable def f_X8_isDigit (a0 : Int32) (h : AH) : Option (Int32 × AH) :=
  jn (fun (x1 : Int32) =>
    rz x1 h) fun j17 =>
  jn (
    j17 (0 : Int32)) fun j16 =>
  if a0 < (48 : Int32) then
    j16
  else
    if (57 : Int32) < a0 then
      j16
    else
      j17 (1 : Int32)
set_option maxRecDepth 100000 in
set_option maxHeartbeats 4000000 in
theorem c_X8_isDigit (l : Launch) (D : DT) (a0 : Int32) (h : AH) (r : Int32 × AH) (hf : f_X8_isDigit a0 h = some r) : CM l D yX8_isDigit cX8_isDigit 1 (some .boolean) 0 0 0 0 [.inl a0] h (some (.int r.1)) r.2 := by
  refine CM.of (by decide) (Nat.le_of_ble_eq_true rfl) (fun X hl C hD hX hnm E => ?_)
  subst hl
  subst hD
  have C : CX X RX8 cX8_isDigit 1 := C
  show WW X h 0 0 0 [some (.int a0)] []
  unfold f_X8_isDigit at hf
  refine s_iload_n C dX8_isDigit_0 rfl ?_
  refine s_bipush C dX8_isDigit_1 (v := (48 : Int32)) (by decide) ?_
  refine s_jn hf (fun j17 e17 hf => ?_)
  have k17 : ∀ (x1 : Int32), j17 x1 = some r → WW X h 0 0 17 [none] [.int x1] := by
    intro x1 hf
    rw [e17] at hf
    exact s_zreturn C E dX8_isDigit_17 hf (Nat.le_of_ble_eq_true rfl) (Nat.le_of_ble_eq_true rfl)
  refine s_jn hf (fun j16 e16 hf => ?_)
  have k16 : j16  = some r → WW X h 0 0 16 [none] [] := by
    intro  hf
    rw [e16] at hf
    refine s_iconst C dX8_isDigit_16 (v := (0 : Int32)) (by decide) ?_
    exact k17 _ hf
  refine s_icmp_lt (tgt := 16) C dX8_isDigit_3 (by decide) hf (fun hf => ?_) (fun hf => ?_)
  · refine s_weak (lv' := [none]) trivial ?_
    exact k16 hf
  · refine s_iload_n C dX8_isDigit_6 rfl ?_
    refine s_bipush C dX8_isDigit_7 (v := (57 : Int32)) (by decide) ?_
    refine s_icmp_gt (tgt := 16) C dX8_isDigit_9 (by decide) hf (fun hf => ?_) (fun hf => ?_)
    · refine s_weak (lv' := [none]) trivial ?_
      exact k16 hf
    · refine s_iconst C dX8_isDigit_12 (v := (1 : Int32)) (by decide) ?_
      refine s_goto (tgt := 17) C dX8_isDigit_13 (by decide) ?_
      refine s_weak (lv' := [none]) trivial ?_
      exact k17 _ hf
/-- HillBoxes$Tape.isLetter(I)Z -/
noncomputable def f_X8_isLetter (a0 : Int32) (h : AH) : Option (Int32 × AH) :=
  jn (fun (x1 : Int32) =>
    rz x1 h) fun j17 =>
  jn (
    j17 (0 : Int32)) fun j16 =>
  if a0 < (97 : Int32) then
    j16
  else
    if (122 : Int32) < a0 then
      j16
    else
      j17 (1 : Int32)
set_option maxRecDepth 100000 in
set_option maxHeartbeats 4000000 in
theorem c_X8_isLetter (l : Launch) (D : DT) (a0 : Int32) (h : AH) (r : Int32 × AH) (hf : f_X8_isLetter a0 h = some r) : CM l D yX8_isLetter cX8_isLetter 1 (some .boolean) 0 0 0 0 [.inl a0] h (some (.int r.1)) r.2 := by
  refine CM.of (by decide) (Nat.le_of_ble_eq_true rfl) (fun X hl C hD hX hnm E => ?_)
  subst hl
  subst hD
  have C : CX X RX8 cX8_isLetter 1 := C
  show WW X h 0 0 0 [some (.int a0)] []
  unfold f_X8_isLetter at hf
  refine s_iload_n C dX8_isLetter_0 rfl ?_
  refine s_bipush C dX8_isLetter_1 (v := (97 : Int32)) (by decide) ?_
  refine s_jn hf (fun j17 e17 hf => ?_)
  have k17 : ∀ (x1 : Int32), j17 x1 = some r → WW X h 0 0 17 [none] [.int x1] := by
    intro x1 hf
    rw [e17] at hf
    exact s_zreturn C E dX8_isLetter_17 hf (Nat.le_of_ble_eq_true rfl) (Nat.le_of_ble_eq_true rfl)
  refine s_jn hf (fun j16 e16 hf => ?_)
  have k16 : j16  = some r → WW X h 0 0 16 [none] [] := by
    intro  hf
    rw [e16] at hf
    refine s_iconst C dX8_isLetter_16 (v := (0 : Int32)) (by decide) ?_
    exact k17 _ hf
  refine s_icmp_lt (tgt := 16) C dX8_isLetter_3 (by decide) hf (fun hf => ?_) (fun hf => ?_)
  · refine s_weak (lv' := [none]) trivial ?_
    exact k16 hf
  · refine s_iload_n C dX8_isLetter_6 rfl ?_
    refine s_bipush C dX8_isLetter_7 (v := (122 : Int32)) (by decide) ?_
    refine s_icmp_gt (tgt := 16) C dX8_isLetter_9 (by decide) hf (fun hf => ?_) (fun hf => ?_)
    · refine s_weak (lv' := [none]) trivial ?_
      exact k16 hf
    · refine s_iconst C dX8_isLetter_12 (v := (1 : Int32)) (by decide) ?_
      refine s_goto (tgt := 17) C dX8_isLetter_13 (by decide) ?_
      refine s_weak (lv' := [none]) trivial ?_
      exact k17 _ hf
/-- HillBoxes$Tape.readNumber(I)V -/
noncomputable def f_X8_readNumber (o : Option Nat) (a1 : Int32) (h : AH) : Option (Unit × AH) :=
  fR h [8] o 2 fun v1 =>
  bI h 20 v1 a1 (2 : Int32) fun h2 =>
  lp (fun _ _ _ => none) (fun (L11 : Int32 → Int32 → AH → Option (Unit × AH)) (x3 : Int32) (x4 : Int32) (h5 : AH) =>
    jn (fun (h6 : AH) =>
      fR h6 [8] o 4 fun v7 =>
      bI h6 20 v7 a1 x3 fun h8 =>
      some ((), h8)) fun j80 =>
    if (160 : Int32) ≤ x4 then
      j80 h5
    else
      fI h5 [8] o 5 fun v9 =>
      rO h5 [8] o <| cl (f_X8_byteAt o v9 h5) fun v11 h10 =>
      cl (f_X8_isDigit v11 h10) fun v13 h12 =>
      if v13 = 0 then
        j80 h12
      else
        jn (fun (x14 : Int32) (h15 : AH) =>
          fI h15 [8] o 5 fun v16 =>
          pI h15 [8] o 5 (v16 + (1 : Int32)) fun h17 =>
          L11 x14 (x4 + 1) h17) fun j64 =>
        if (5 : Int32) ≤ x4 then
          fR h12 [8] o 2 fun v18 =>
          bI h12 20 v18 a1 (1 : Int32) fun h19 =>
          j64 x3 h19
        else
          fI h12 [8] o 5 fun v20 =>
          rO h12 [8] o <| cl (f_X8_byteAt o v20 h12) fun v22 h21 =>
          j64 ((((10 : Int32) * x3) + v22) - (48 : Int32)) h21) lpN (0 : Int32) (0 : Int32) h2
set_option maxRecDepth 100000 in
set_option maxHeartbeats 4000000 in
theorem c_X8_readNumber (l : Launch) (D : DT) (o : Option Nat) (a1 : Int32) (h : AH) (r : Unit × AH) (hf : f_X8_readNumber o a1 h = some r) : CM l D yX8_readNumber cX8_readNumber 4 none 1 21 0 0 [.inr (.inr o), .inl a1] h none r.2 := by
  refine CM.of (by decide) (Nat.le_of_ble_eq_true rfl) (fun X hl C hD hX hnm E => ?_)
  subst hl
  subst hD
  have C : CX X RX8 cX8_readNumber 4 := C
  show WW X h 0 0 0 [some (rB (xD X).1 o), some (.int a1), none, none] []
  unfold f_X8_readNumber at hf
  refine s_iconst C dX8_readNumber_0 (v := (0 : Int32)) (by decide) ?_
  refine s_istore_n C dX8_readNumber_1 (by decide) (nc_i rfl) (lv' := [some (rB (xD X).1 o), some (.int a1), some (.int (0 : Int32)), none]) rfl ?_
  refine s_aload_n C dX8_readNumber_2 rfl ?_
  refine s_getR C fl_X8_13 dX8_readNumber_3 hf (fun v1 hf => ?_)
  refine s_iload_n C dX8_readNumber_6 rfl ?_
  refine s_iconst C dX8_readNumber_7 (v := (2 : Int32)) (by decide) ?_
  refine s_iastore C dX8_readNumber_8 hf (fun h2 hf => ?_)
  refine s_iconst C dX8_readNumber_9 (v := (0 : Int32)) (by decide) ?_
  refine s_istore_n C dX8_readNumber_10 (by decide) (nc_i rfl) (lv' := [some (rB (xD X).1 o), some (.int a1), some (.int (0 : Int32)), some (.int (0 : Int32))]) rfl ?_
  refine s_lp3 hf (fun G11 z11 q11 hf => ?_)
  have k11 : ∀ (n : Nat) (x3 : Int32) (x4 : Int32) (h5 : AH), G11 n x3 x4 h5 = some r → WW X h5 0 0 11 [some (rB (xD X).1 o), some (.int a1), some (.int x3), some (.int x4)] [] := by
    intro n
    induction n with
    | zero =>
      intro x3 x4 h5 hf
      rw [z11] at hf
      cases hf
    | succ n ih11 =>
      intro x3 x4 h5 hf
      have hf := (q11 n x3 x4 h5).symm.trans hf
      refine s_iload_n C dX8_readNumber_11 rfl ?_
      refine s_sipush C dX8_readNumber_12 (v := (160 : Int32)) (by decide) ?_
      refine s_jn hf (fun j80 e80 hf => ?_)
      have k80 : ∀ (h6 : AH), j80 h6 = some r → WW X h6 0 0 80 [some (rB (xD X).1 o), some (.int a1), some (.int x3), none] [] := by
        intro h6 hf
        rw [e80] at hf
        refine s_aload_n C dX8_readNumber_80 rfl ?_
        refine s_getR C fl_X8_19 dX8_readNumber_81 hf (fun v7 hf => ?_)
        refine s_iload_n C dX8_readNumber_84 rfl ?_
        refine s_iload_n C dX8_readNumber_85 rfl ?_
        refine s_iastore C dX8_readNumber_86 hf (fun h8 hf => ?_)
        exact s_return C E dX8_readNumber_87 hf (Nat.le_of_ble_eq_true rfl) (Nat.le_of_ble_eq_true rfl)
      refine s_icmp_ge (tgt := 80) C dX8_readNumber_15 (by decide) hf (fun hf => ?_) (fun hf => ?_)
      · refine s_weak (lv' := [some (rB (xD X).1 o), some (.int a1), some (.int x3), none]) ⟨rfl, ⟨rfl, ⟨rfl, trivial⟩⟩⟩ ?_
        exact k80 _ hf
      · refine s_aload_n C dX8_readNumber_18 rfl ?_
        refine s_aload_n C dX8_readNumber_19 rfl ?_
        refine s_getI C fl_X8_88 dX8_readNumber_20 hf (fun v9 hf => ?_)
        refine s_callV (rvf := fun x => some (.int x)) (st := []) (fr := 0) (lo := 0) (mc := 0) (ms := 0) C [8] wc_X8_byteAt wml_X8_94 wim_X8_byteAt wsl_8_X8_byteAt dX8_readNumber_23 (As := [.inl v9]) rfl hf (fun x h' hF => c_X8_byteAt _ _ _ _ _ (x, h') hF) rfl (Nat.le_of_ble_eq_true rfl) (room_ok hX (Nat.le_of_ble_eq_true rfl) (Nat.le_of_ble_eq_true rfl)) (cell_ok hX (Nat.le_of_ble_eq_true rfl) (Nat.le_of_ble_eq_true rfl)) (fun v11 h10 hf => ?_)
        refine s_callS (rvf := fun x => some (.int x)) (st := []) (fr := 0) (lo := 0) (mc := 0) (ms := 0) C wc_X8_isDigit wml_X8_104 wst_X8_isDigit dX8_readNumber_26 (As := [.inl v11]) rfl hf (fun x h' hF => c_X8_isDigit _ _ _ _ (x, h') hF) rfl (Nat.le_of_ble_eq_true rfl) (room_ok hX (Nat.le_of_ble_eq_true rfl) (Nat.le_of_ble_eq_true rfl)) (cell_ok hX (Nat.le_of_ble_eq_true rfl) (Nat.le_of_ble_eq_true rfl)) (fun v13 h12 hf => ?_)
        refine s_if_eq (tgt := 80) C dX8_readNumber_29 (by decide) hf (fun hf => ?_) (fun hf => ?_)
        · refine s_weak (lv' := [some (rB (xD X).1 o), some (.int a1), some (.int x3), none]) ⟨rfl, ⟨rfl, ⟨rfl, trivial⟩⟩⟩ ?_
          exact k80 _ hf
        · refine s_iload_n C dX8_readNumber_32 rfl ?_
          refine s_iconst C dX8_readNumber_33 (v := (5 : Int32)) (by decide) ?_
          refine s_jn hf (fun j64 e64 hf => ?_)
          have k64 : ∀ (x14 : Int32) (h15 : AH), j64 x14 h15 = some r → WW X h15 0 0 64 [some (rB (xD X).1 o), some (.int a1), some (.int x14), some (.int x4)] [] := by
            intro x14 h15 hf
            rw [e64] at hf
            refine s_aload_n C dX8_readNumber_64 rfl ?_
            refine s_dup C dX8_readNumber_65 c1_r ?_
            refine s_getI C fl_X8_88 dX8_readNumber_66 hf (fun v16 hf => ?_)
            refine s_iconst C dX8_readNumber_69 (v := (1 : Int32)) (by decide) ?_
            refine s_iadd C dX8_readNumber_70 ?_
            refine s_putI C fl_X8_88 (by decide) dX8_readNumber_71 hf (fun h17 hf => ?_)
            refine s_iinc C dX8_readNumber_74 (v := (x4 + 1)) rfl rfl (by decide) (nc_i rfl) (lv' := [some (rB (xD X).1 o), some (.int a1), some (.int x14), some (.int (x4 + 1))]) rfl ?_
            refine s_goto (tgt := 11) C dX8_readNumber_77 (by decide) ?_
            exact ih11 _ _ _ hf
          refine s_icmp_ge (tgt := 57) C dX8_readNumber_34 (by decide) hf (fun hf => ?_) (fun hf => ?_)
          · refine s_aload_n C dX8_readNumber_57 rfl ?_
            refine s_getR C fl_X8_13 dX8_readNumber_58 hf (fun v18 hf => ?_)
            refine s_iload_n C dX8_readNumber_61 rfl ?_
            refine s_iconst C dX8_readNumber_62 (v := (1 : Int32)) (by decide) ?_
            refine s_iastore C dX8_readNumber_63 hf (fun h19 hf => ?_)
            exact k64 _ _ hf
          · refine s_bipush C dX8_readNumber_37 (v := (10 : Int32)) (by decide) ?_
            refine s_iload_n C dX8_readNumber_39 rfl ?_
            refine s_imul C dX8_readNumber_40 ?_
            refine s_aload_n C dX8_readNumber_41 rfl ?_
            refine s_aload_n C dX8_readNumber_42 rfl ?_
            refine s_getI C fl_X8_88 dX8_readNumber_43 hf (fun v20 hf => ?_)
            refine s_callV (rvf := fun x => some (.int x)) (st := [.int ((10 : Int32) * x3)]) (fr := 0) (lo := 0) (mc := 0) (ms := 0) C [8] wc_X8_byteAt wml_X8_94 wim_X8_byteAt wsl_8_X8_byteAt dX8_readNumber_46 (As := [.inl v20]) rfl hf (fun x h' hF => c_X8_byteAt _ _ _ _ _ (x, h') hF) rfl (Nat.le_of_ble_eq_true rfl) (room_ok hX (Nat.le_of_ble_eq_true rfl) (Nat.le_of_ble_eq_true rfl)) (cell_ok hX (Nat.le_of_ble_eq_true rfl) (Nat.le_of_ble_eq_true rfl)) (fun v22 h21 hf => ?_)
            refine s_iadd C dX8_readNumber_49 ?_
            refine s_bipush C dX8_readNumber_50 (v := (48 : Int32)) (by decide) ?_
            refine s_isub C dX8_readNumber_52 ?_
            refine s_istore_n C dX8_readNumber_53 (by decide) (nc_i rfl) (lv' := [some (rB (xD X).1 o), some (.int a1), some (.int ((((10 : Int32) * x3) + v22) - (48 : Int32))), some (.int x4)]) rfl ?_
            refine s_goto (tgt := 64) C dX8_readNumber_54 (by decide) ?_
            exact k64 _ _ hf
  exact k11 lpN _ _ _ hf
