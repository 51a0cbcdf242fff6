/-- HillBoxesModel.ran(I)V -/
noncomputable def f_X12_ran (o : Option Nat) (a1 : Int32) (h : AH) : Option (Unit × AH) :=
  fI h [12] o 84 fun v1 =>
  jn (fun (h2 : AH) =>
    fI h2 [12] o 84 fun v3 =>
    pI h2 [12] o 84 (v3 + (1 : Int32)) fun h4 =>
    some ((), h4)) fun j19 =>
  if (24 : Int32) ≤ v1 then
    j19 h
  else
    fR h [12] o 85 fun v5 =>
    fI h [12] o 84 fun v6 =>
    bI h 20 v5 v6 a1 fun h7 =>
    j19 h7
set_option maxRecDepth 100000 in
set_option maxHeartbeats 4000000 in
theorem c_X12_ran (l : Launch) (D : DT) (o : Option Nat) (a1 : Int32) (h : AH) (r : Unit × AH) (hf : f_X12_ran o a1 h = some r) : CM l D yX12_ran cX12_ran 2 none 0 0 0 0 [.inr (.inr o), .inl a1] h none r.2 := by
  refine CM.of (by decide) (Nat.le_of_ble_eq_true rfl) (fun X hl C hD hX hnm E => ?_)
  subst hl
  subst hD
  have C : CX X RX12 cX12_ran 2 := C
  show WW X h 0 0 0 [some (rB (xD X).1 o), some (.int a1)] []
  unfold f_X12_ran at hf
  refine s_aload_n C dX12_ran_0 rfl ?_
  refine s_getI C fl_X12_586 dX12_ran_1 hf (fun v1 hf => ?_)
  refine s_bipush C dX12_ran_4 (v := (24 : Int32)) (by decide) ?_
  refine s_jn hf (fun j19 e19 hf => ?_)
  have k19 : ∀ (h2 : AH), j19 h2 = some r → WW X h2 0 0 19 [some (rB (xD X).1 o), none] [] := by
    intro h2 hf
    rw [e19] at hf
    refine s_aload_n C dX12_ran_19 rfl ?_
    refine s_dup C dX12_ran_20 c1_r ?_
    refine s_getI C fl_X12_586 dX12_ran_21 hf (fun v3 hf => ?_)
    refine s_iconst C dX12_ran_24 (v := (1 : Int32)) (by decide) ?_
    refine s_iadd C dX12_ran_25 ?_
    refine s_putI C fl_X12_586 (by decide) dX12_ran_26 hf (fun h4 hf => ?_)
    exact s_return C E dX12_ran_29 hf (Nat.le_of_ble_eq_true rfl) (Nat.le_of_ble_eq_true rfl)
  refine s_icmp_ge (tgt := 19) C dX12_ran_6 (by decide) hf (fun hf => ?_) (fun hf => ?_)
  · refine s_weak (lv' := [some (rB (xD X).1 o), none]) ⟨rfl, trivial⟩ ?_
    exact k19 _ hf
  · refine s_aload_n C dX12_ran_9 rfl ?_
    refine s_getR C fl_X12_177 dX12_ran_10 hf (fun v5 hf => ?_)
    refine s_aload_n C dX12_ran_13 rfl ?_
    refine s_getI C fl_X12_586 dX12_ran_14 hf (fun v6 hf => ?_)
    refine s_iload_n C dX12_ran_17 rfl ?_
    refine s_iastore C dX12_ran_18 hf (fun h7 hf => ?_)
    refine s_weak (lv' := [some (rB (xD X).1 o), none]) ⟨rfl, trivial⟩ ?_
    exact k19 _ hf
/-- HillBoxesModel.plainFinds(II)I -/
noncomputable def f_X12_plainFinds (o : Option Nat) (a1 : Int32) (a2 : Int32) (h : AH) : Option (Int32 × AH) :=
  rO h [12] o <| cl (f_X12_ran o (11 : Int32) h) fun _ h1 =>
  some ((a2 ^^^ a1), h1)
set_option maxRecDepth 100000 in
set_option maxHeartbeats 4000000 in
theorem c_X12_plainFinds (l : Launch) (D : DT) (o : Option Nat) (a1 : Int32) (a2 : Int32) (h : AH) (r : Int32 × AH) (hf : f_X12_plainFinds o a1 a2 h = some r) : CM l D yX12_plainFinds cX12_plainFinds 3 (some .int) 1 21 0 0 [.inr (.inr o), .inl a1, .inl a2] h (some (.int r.1)) r.2 := by
  refine CM.of (by decide) (Nat.le_of_ble_eq_true rfl) (fun X hl C hD hX hnm E => ?_)
  subst hl
  subst hD
  have C : CX X RX12 cX12_plainFinds 3 := C
  show WW X h 0 0 0 [some (rB (xD X).1 o), some (.int a1), some (.int a2)] []
  unfold f_X12_plainFinds at hf
  refine s_aload_n C dX12_plainFinds_0 rfl ?_
  refine s_bipush C dX12_plainFinds_1 (v := (11 : Int32)) (by decide) ?_
  refine s_callV (rvf := fun _ => none) (st := []) (fr := 0) (lo := 0) (mc := 0) (ms := 0) C [12] wc_X12_ran wml_X12_589 wim_X12_ran wsl_12_X12_ran dX12_plainFinds_3 (As := [.inl (11 : Int32)]) rfl hf (fun x h' hF => c_X12_ran _ _ _ _ _ (x, h') hF) rfl (Nat.le_of_ble_eq_true rfl) (room_ok hX (Nat.le_of_ble_eq_true rfl) (Nat.le_of_ble_eq_true rfl)) (cell_ok hX (Nat.le_of_ble_eq_true rfl) (Nat.le_of_ble_eq_true rfl)) (fun _ h1 hf => ?_)
  refine s_iload_n C dX12_plainFinds_6 rfl ?_
  refine s_iload_n C dX12_plainFinds_7 rfl ?_
  refine s_ixor C dX12_plainFinds_8 ?_
  exact s_ireturn C E dX12_plainFinds_9 hf (Nat.le_of_ble_eq_true rfl) (Nat.le_of_ble_eq_true rfl)
/-- HillBoxesModel.finds(II)I -/
noncomputable def f_X12_finds (o : Option Nat) (a1 : Int32) (a2 : Int32) (h : AH) : Option (Int32 × AH) :=
  fR h [12] o 4 fun v1 =>
  aI h 20 v1 a1 fun v2 =>
  if v2 = (3 : Int32) then
    rO h [12] o <| cl (f_X12_ran o (40 : Int32) h) fun _ h10 =>
    rO h10 [12] o <| cl (f_X12_plainFinds o a1 a2 h10) fun v12 h11 =>
    some ((v12 * (3 : Int32)), h11)
  else
    fR h [12] o 4 fun v3 =>
    aI h 20 v3 a1 fun v4 =>
    if v4 = (5 : Int32) then
      rO h [12] o <| cl (f_X12_ran o (60 : Int32) h) fun _ h7 =>
      rO h7 [12] o <| cl (f_X12_plainFinds o a1 a2 h7) fun v9 h8 =>
      some ((-v9), h8)
    else
      rO h [12] o <| cl (f_X12_plainFinds o a1 a2 h) fun v6 h5 =>
      some (v6, h5)
set_option maxRecDepth 100000 in
set_option maxHeartbeats 4000000 in
theorem c_X12_finds (l : Launch) (D : DT) (o : Option Nat) (a1 : Int32) (a2 : Int32) (h : AH) (r : Int32 × AH) (hf : f_X12_finds o a1 a2 h = some r) : CM l D yX12_finds cX12_finds 3 (some .int) 2 43 0 0 [.inr (.inr o), .inl a1, .inl a2] h (some (.int r.1)) r.2 := by
  refine CM.of (by decide) (Nat.le_of_ble_eq_true rfl) (fun X hl C hD hX hnm E => ?_)
  subst hl
  subst hD
  have C : CX X RX12 cX12_finds 3 := C
  show WW X h 0 0 0 [some (rB (xD X).1 o), some (.int a1), some (.int a2)] []
  unfold f_X12_finds at hf
  refine s_aload_n C dX12_finds_0 rfl ?_
  refine s_getR C fl_X12_13 dX12_finds_1 hf (fun v1 hf => ?_)
  refine s_iload_n C dX12_finds_4 rfl ?_
  refine s_iaload C dX12_finds_5 hf (fun v2 hf => ?_)
  refine s_iconst C dX12_finds_6 (v := (3 : Int32)) (by decide) ?_
  refine s_icmp_ne (tgt := 25) C dX12_finds_7 (by decide) hf (fun hf => ?_) (fun hf => ?_)
  · refine s_aload_n C dX12_finds_25 rfl ?_
    refine s_getR C fl_X12_13 dX12_finds_26 hf (fun v3 hf => ?_)
    refine s_iload_n C dX12_finds_29 rfl ?_
    refine s_iaload C dX12_finds_30 hf (fun v4 hf => ?_)
    refine s_iconst C dX12_finds_31 (v := (5 : Int32)) (by decide) ?_
    refine s_icmp_ne (tgt := 49) C dX12_finds_32 (by decide) hf (fun hf => ?_) (fun hf => ?_)
    · refine s_aload_n C dX12_finds_49 rfl ?_
      refine s_iload_n C dX12_finds_50 rfl ?_
      refine s_iload_n C dX12_finds_51 rfl ?_
      refine s_callV (rvf := fun x => some (.int x)) (st := []) (fr := 1) (lo := 21) (mc := 0) (ms := 0) C [12] wc_X12_plainFinds wml_X12_610 wim_X12_plainFinds wsl_12_X12_plainFinds dX12_finds_52 (As := [.inl a1, .inl a2]) rfl hf (fun x h' hF => c_X12_plainFinds _ _ _ _ _ _ (x, h') hF) rfl (Nat.le_of_ble_eq_true rfl) (room_ok hX (Nat.le_of_ble_eq_true rfl) (Nat.le_of_ble_eq_true rfl)) (cell_ok hX (Nat.le_of_ble_eq_true rfl) (Nat.le_of_ble_eq_true rfl)) (fun v6 h5 hf => ?_)
      exact s_ireturn C E dX12_finds_55 hf (Nat.le_of_ble_eq_true rfl) (Nat.le_of_ble_eq_true rfl)
    · refine s_aload_n C dX12_finds_35 rfl ?_
      refine s_bipush C dX12_finds_36 (v := (60 : Int32)) (by decide) ?_
      refine s_callV (rvf := fun _ => none) (st := []) (fr := 0) (lo := 0) (mc := 0) (ms := 0) C [12] wc_X12_ran wml_X12_589 wim_X12_ran wsl_12_X12_ran dX12_finds_38 (As := [.inl (60 : Int32)]) rfl hf (fun x h' hF => c_X12_ran _ _ _ _ _ (x, h') hF) rfl (Nat.le_of_ble_eq_true rfl) (room_ok hX (Nat.le_of_ble_eq_true rfl) (Nat.le_of_ble_eq_true rfl)) (cell_ok hX (Nat.le_of_ble_eq_true rfl) (Nat.le_of_ble_eq_true rfl)) (fun _ h7 hf => ?_)
      refine s_aload_n C dX12_finds_41 rfl ?_
      refine s_iload_n C dX12_finds_42 rfl ?_
      refine s_iload_n C dX12_finds_43 rfl ?_
      refine s_callV (rvf := fun x => some (.int x)) (st := []) (fr := 1) (lo := 21) (mc := 0) (ms := 0) C [12] wc_X12_plainFinds wml_X12_610 wim_X12_plainFinds wsl_12_X12_plainFinds dX12_finds_44 (As := [.inl a1, .inl a2]) rfl hf (fun x h' hF => c_X12_plainFinds _ _ _ _ _ _ (x, h') hF) rfl (Nat.le_of_ble_eq_true rfl) (room_ok hX (Nat.le_of_ble_eq_true rfl) (Nat.le_of_ble_eq_true rfl)) (cell_ok hX (Nat.le_of_ble_eq_true rfl) (Nat.le_of_ble_eq_true rfl)) (fun v9 h8 hf => ?_)
      refine s_ineg C dX12_finds_47 ?_
      exact s_ireturn C E dX12_finds_48 hf (Nat.le_of_ble_eq_true rfl) (Nat.le_of_ble_eq_true rfl)
  · refine s_aload_n C dX12_finds_10 rfl ?_
    refine s_bipush C dX12_finds_11 (v := (40 : Int32)) (by decide) ?_
    refine s_callV (rvf := fun _ => none) (st := []) (fr := 0) (lo := 0) (mc := 0) (ms := 0) C [12] wc_X12_ran wml_X12_589 wim_X12_ran wsl_12_X12_ran dX12_finds_13 (As := [.inl (40 : Int32)]) rfl hf (fun x h' hF => c_X12_ran _ _ _ _ _ (x, h') hF) rfl (Nat.le_of_ble_eq_true rfl) (room_ok hX (Nat.le_of_ble_eq_true rfl) (Nat.le_of_ble_eq_true rfl)) (cell_ok hX (Nat.le_of_ble_eq_true rfl) (Nat.le_of_ble_eq_true rfl)) (fun _ h10 hf => ?_)
    refine s_aload_n C dX12_finds_16 rfl ?_
    refine s_iload_n C dX12_finds_17 rfl ?_
    refine s_iload_n C dX12_finds_18 rfl ?_
    refine s_callV (rvf := fun x => some (.int x)) (st := []) (fr := 1) (lo := 21) (mc := 0) (ms := 0) C [12] wc_X12_plainFinds wml_X12_610 wim_X12_plainFinds wsl_12_X12_plainFinds dX12_finds_19 (As := [.inl a1, .inl a2]) rfl hf (fun x h' hF => c_X12_plainFinds _ _ _ _ _ _ (x, h') hF) rfl (Nat.le_of_ble_eq_true rfl) (room_ok hX (Nat.le_of_ble_eq_true rfl) (Nat.le_of_ble_eq_true rfl)) (cell_ok hX (Nat.le_of_ble_eq_true rfl) (Nat.le_of_ble_eq_true rfl)) (fun v12 h11 hf => ?_)
    refine s_iconst C dX12_finds_22 (v := (3 : Int32)) (by decide) ?_
    refine s_imul C dX12_finds_23 ?_
    exact s_ireturn C E dX12_finds_24 hf (Nat.le_of_ble_eq_true rfl) (Nat.le_of_ble_eq_true rfl)
/-- HillBoxesModel.cellNow(I)I -/
noncomputable def f_X12_cellNow (o : Option Nat) (a1 : Int32) (h : AH) : Option (Int32 × AH) :=
  fI h [12] o 13 fun v1 =>
  lp (fun _ => none) (fun (L7 : Int32 → Option (Int32 × AH)) (x2 : Int32) =>
    if x2 < 0 then
      fR h [12] o 5 fun v3 =>
      aI h 20 v3 a1 fun v4 =>
      some (v4, h)
    else
      fR h [12] o 14 fun v5 =>
      aI h 20 v5 x2 fun v6 =>
      if v6 = a1 then
        fR h [12] o 15 fun v7 =>
        aI h 20 v7 x2 fun v8 =>
        some (v8, h)
      else
        L7 (x2 + (-1))) lpN (v1 - (1 : Int32))
set_option maxRecDepth 100000 in
set_option maxHeartbeats 4000000 in
theorem c_X12_cellNow (l : Launch) (D : DT) (o : Option Nat) (a1 : Int32) (h : AH) (r : Int32 × AH) (hf : f_X12_cellNow o a1 h = some r) : CM l D yX12_cellNow cX12_cellNow 3 (some .int) 0 0 0 0 [.inr (.inr o), .inl a1] h (some (.int r.1)) r.2 := by
  refine CM.of (by decide) (Nat.le_of_ble_eq_true rfl) (fun X hl C hD hX hnm E => ?_)
  subst hl
  subst hD
  have C : CX X RX12 cX12_cellNow 3 := C
  show WW X h 0 0 0 [some (rB (xD X).1 o), some (.int a1), none] []
  unfold f_X12_cellNow at hf
  refine s_aload_n C dX12_cellNow_0 rfl ?_
  refine s_getI C fl_X12_236 dX12_cellNow_1 hf (fun v1 hf => ?_)
  refine s_iconst C dX12_cellNow_4 (v := (1 : Int32)) (by decide) ?_
  refine s_isub C dX12_cellNow_5 ?_
  refine s_istore_n C dX12_cellNow_6 (by decide) (nc_i rfl) (lv' := [some (rB (xD X).1 o), some (.int a1), some (.int (v1 - (1 : Int32)))]) rfl ?_
  refine s_lp1 hf (fun G7 z7 q7 hf => ?_)
  have k7 : ∀ (n : Nat) (x2 : Int32), G7 n x2 = some r → WW X h 0 0 7 [some (rB (xD X).1 o), some (.int a1), some (.int x2)] [] := by
    intro n
    induction n with
    | zero =>
      intro x2 hf
      rw [z7] at hf
      cases hf
    | succ n ih7 =>
      intro x2 hf
      have hf := (q7 n x2).symm.trans hf
      refine s_iload_n C dX12_cellNow_7 rfl ?_
      refine s_if_lt (tgt := 34) C dX12_cellNow_8 (by decide) hf (fun hf => ?_) (fun hf => ?_)
      · refine s_aload_n C dX12_cellNow_34 rfl ?_
        refine s_getR C fl_X12_16 dX12_cellNow_35 hf (fun v3 hf => ?_)
        refine s_iload_n C dX12_cellNow_38 rfl ?_
        refine s_iaload C dX12_cellNow_39 hf (fun v4 hf => ?_)
        exact s_ireturn C E dX12_cellNow_40 hf (Nat.le_of_ble_eq_true rfl) (Nat.le_of_ble_eq_true rfl)
      · refine s_aload_n C dX12_cellNow_11 rfl ?_
        refine s_getR C fl_X12_37 dX12_cellNow_12 hf (fun v5 hf => ?_)
        refine s_iload_n C dX12_cellNow_15 rfl ?_
        refine s_iaload C dX12_cellNow_16 hf (fun v6 hf => ?_)
        refine s_iload_n C dX12_cellNow_17 rfl ?_
        refine s_icmp_ne (tgt := 28) C dX12_cellNow_18 (by decide) hf (fun hf => ?_) (fun hf => ?_)
        · refine s_iinc C dX12_cellNow_28 (v := (x2 + (-1))) rfl rfl (by decide) (nc_i rfl) (lv' := [some (rB (xD X).1 o), some (.int a1), some (.int (x2 + (-1)))]) rfl ?_
          refine s_goto (tgt := 7) C dX12_cellNow_31 (by decide) ?_
          exact ih7 _ hf
        · refine s_aload_n C dX12_cellNow_21 rfl ?_
          refine s_getR C fl_X12_40 dX12_cellNow_22 hf (fun v7 hf => ?_)
          refine s_iload_n C dX12_cellNow_25 rfl ?_
          refine s_iaload C dX12_cellNow_26 hf (fun v8 hf => ?_)
          exact s_ireturn C E dX12_cellNow_27 hf (Nat.le_of_ble_eq_true rfl) (Nat.le_of_ble_eq_true rfl)
  exact k7 lpN _ hf
/-- HillBoxesModel.plainHides(II)I -/
noncomputable def f_X12_plainHides (o : Option Nat) (a1 : Int32) (a2 : Int32) (h : AH) : Option (Int32 × AH) :=
  rO h [12] o <| cl (f_X12_ran o (1 : Int32) h) fun _ h1 =>
  some ((a2 + a1), h1)
set_option maxRecDepth 100000 in
set_option maxHeartbeats 4000000 in
theorem c_X12_plainHides (l : Launch) (D : DT) (o : Option Nat) (a1 : Int32) (a2 : Int32) (h : AH) (r : Int32 × AH) (hf : f_X12_plainHides o a1 a2 h = some r) : CM l D yX12_plainHides cX12_plainHides 3 (some .int) 1 21 0 0 [.inr (.inr o), .inl a1, .inl a2] h (some (.int r.1)) r.2 := by
  refine CM.of (by decide) (Nat.le_of_ble_eq_true rfl) (fun X hl C hD hX hnm E => ?_)
  subst hl
  subst hD
  have C : CX X RX12 cX12_plainHides 3 := C
  show WW X h 0 0 0 [some (rB (xD X).1 o), some (.int a1), some (.int a2)] []
  unfold f_X12_plainHides at hf
  refine s_aload_n C dX12_plainHides_0 rfl ?_
  refine s_iconst C dX12_plainHides_1 (v := (1 : Int32)) (by decide) ?_
  refine s_callV (rvf := fun _ => none) (st := []) (fr := 0) (lo := 0) (mc := 0) (ms := 0) C [12] wc_X12_ran wml_X12_589 wim_X12_ran wsl_12_X12_ran dX12_plainHides_2 (As := [.inl (1 : Int32)]) rfl hf (fun x h' hF => c_X12_ran _ _ _ _ _ (x, h') hF) rfl (Nat.le_of_ble_eq_true rfl) (room_ok hX (Nat.le_of_ble_eq_true rfl) (Nat.le_of_ble_eq_true rfl)) (cell_ok hX (Nat.le_of_ble_eq_true rfl) (Nat.le_of_ble_eq_true rfl)) (fun _ h1 hf => ?_)
  refine s_iload_n C dX12_plainHides_5 rfl ?_
  refine s_iload_n C dX12_plainHides_6 rfl ?_
  refine s_iadd C dX12_plainHides_7 ?_
  exact s_ireturn C E dX12_plainHides_8 hf (Nat.le_of_ble_eq_true rfl) (Nat.le_of_ble_eq_true rfl)
/-- HillBoxesModel.boxHides(II)I -/
noncomputable def f_X12_boxHides (o : Option Nat) (a1 : Int32) (a2 : Int32) (h : AH) : Option (Int32 × AH) :=
  rO h [12] o <| cl (f_X12_ran o (20 : Int32) h) fun _ h1 =>
  rO h1 [12] o <| cl (f_X12_plainHides o a1 a2 h1) fun v3 h2 =>
  rO h2 [12] o <| cl (f_X12_cellNow o a1 h2) fun v5 h4 =>
  some ((v3 - v5), h4)
set_option maxRecDepth 100000 in
set_option maxHeartbeats 4000000 in
theorem c_X12_boxHides (l : Launch) (D : DT) (o : Option Nat) (a1 : Int32) (a2 : Int32) (h : AH) (r : Int32 × AH) (hf : f_X12_boxHides o a1 a2 h = some r) : CM l D yX12_boxHides cX12_boxHides 3 (some .int) 2 43 0 0 [.inr (.inr o), .inl a1, .inl a2] h (some (.int r.1)) r.2 := by
  refine CM.of (by decide) (Nat.le_of_ble_eq_true rfl) (fun X hl C hD hX hnm E => ?_)
  subst hl
  subst hD
  have C : CX X RX12 cX12_boxHides 3 := C
  show WW X h 0 0 0 [some (rB (xD X).1 o), some (.int a1), some (.int a2)] []
  unfold f_X12_boxHides at hf
  refine s_aload_n C dX12_boxHides_0 rfl ?_
  refine s_bipush C dX12_boxHides_1 (v := (20 : Int32)) (by decide) ?_
  refine s_callV (rvf := fun _ => none) (st := []) (fr := 0) (lo := 0) (mc := 0) (ms := 0) C [12] wc_X12_ran wml_X12_589 wim_X12_ran wsl_12_X12_ran dX12_boxHides_3 (As := [.inl (20 : Int32)]) rfl hf (fun x h' hF => c_X12_ran _ _ _ _ _ (x, h') hF) rfl (Nat.le_of_ble_eq_true rfl) (room_ok hX (Nat.le_of_ble_eq_true rfl) (Nat.le_of_ble_eq_true rfl)) (cell_ok hX (Nat.le_of_ble_eq_true rfl) (Nat.le_of_ble_eq_true rfl)) (fun _ h1 hf => ?_)
  refine s_aload_n C dX12_boxHides_6 rfl ?_
  refine s_iload_n C dX12_boxHides_7 rfl ?_
  refine s_iload_n C dX12_boxHides_8 rfl ?_
  refine s_callV (rvf := fun x => some (.int x)) (st := []) (fr := 1) (lo := 21) (mc := 0) (ms := 0) C [12] wc_X12_plainHides wml_X12_592 wim_X12_plainHides wsl_12_X12_plainHides dX12_boxHides_9 (As := [.inl a1, .inl a2]) rfl hf (fun x h' hF => c_X12_plainHides _ _ _ _ _ _ (x, h') hF) rfl (Nat.le_of_ble_eq_true rfl) (room_ok hX (Nat.le_of_ble_eq_true rfl) (Nat.le_of_ble_eq_true rfl)) (cell_ok hX (Nat.le_of_ble_eq_true rfl) (Nat.le_of_ble_eq_true rfl)) (fun v3 h2 hf => ?_)
  refine s_aload_n C dX12_boxHides_12 rfl ?_
  refine s_iload_n C dX12_boxHides_13 rfl ?_
  refine s_callV (rvf := fun x => some (.int x)) (st := [.int v3]) (fr := 0) (lo := 0) (mc := 0) (ms := 0) C [12] wc_X12_cellNow wml_X12_239 wim_X12_cellNow wsl_12_X12_cellNow dX12_boxHides_14 (As := [.inl a1]) rfl hf (fun x h' hF => c_X12_cellNow _ _ _ _ _ (x, h') hF) rfl (Nat.le_of_ble_eq_true rfl) (room_ok hX (Nat.le_of_ble_eq_true rfl) (Nat.le_of_ble_eq_true rfl)) (cell_ok hX (Nat.le_of_ble_eq_true rfl) (Nat.le_of_ble_eq_true rfl)) (fun v5 h4 hf => ?_)
  refine s_isub C dX12_boxHides_17 ?_
  exact s_ireturn C E dX12_boxHides_18 hf (Nat.le_of_ble_eq_true rfl) (Nat.le_of_ble_eq_true rfl)
/-- HillBoxesModel.in(III)Z -/
noncomputable def f_X12_in (a0 : Int32) (a1 : Int32) (a2 : Int32) (h : AH) : Option (Int32 × AH) :=
  jn (fun (x1 : Int32) =>
    rz x1 h) fun j15 =>
  jn (
    j15 (0 : Int32)) fun j14 =>
  if a0 < a1 then
    j14
  else
    if a2 < a0 then
      j14
    else
      j15 (1 : Int32)
set_option maxRecDepth 100000 in
set_option maxHeartbeats 4000000 in
theorem c_X12_in (l : Launch) (D : DT) (a0 : Int32) (a1 : Int32) (a2 : Int32) (h : AH) (r : Int32 × AH) (hf : f_X12_in a0 a1 a2 h = some r) : CM l D yX12_in cX12_in 3 (some .boolean) 0 0 0 0 [.inl a0, .inl a1, .inl a2] h (some (.int r.1)) r.2 := by
  refine CM.of (by decide) (Nat.le_of_ble_eq_true rfl) (fun X hl C hD hX hnm E => ?_)
  subst hl
  subst hD
  have C : CX X RX12 cX12_in 3 := C
  show WW X h 0 0 0 [some (.int a0), some (.int a1), some (.int a2)] []
  unfold f_X12_in at hf
  refine s_iload_n C dX12_in_0 rfl ?_
  refine s_iload_n C dX12_in_1 rfl ?_
  refine s_jn hf (fun j15 e15 hf => ?_)
  have k15 : ∀ (x1 : Int32), j15 x1 = some r → WW X h 0 0 15 [none, none, none] [.int x1] := by
    intro x1 hf
    rw [e15] at hf
    exact s_zreturn C E dX12_in_15 hf (Nat.le_of_ble_eq_true rfl) (Nat.le_of_ble_eq_true rfl)
  refine s_jn hf (fun j14 e14 hf => ?_)
  have k14 : j14  = some r → WW X h 0 0 14 [none, none, none] [] := by
    intro  hf
    rw [e14] at hf
    refine s_iconst C dX12_in_14 (v := (0 : Int32)) (by decide) ?_
    exact k15 _ hf
  refine s_icmp_lt (tgt := 14) C dX12_in_2 (by decide) hf (fun hf => ?_) (fun hf => ?_)
  · refine s_weak (lv' := [none, none, none]) trivial ?_
    exact k14 hf
  · refine s_iload_n C dX12_in_5 rfl ?_
    refine s_iload_n C dX12_in_6 rfl ?_
    refine s_icmp_gt (tgt := 14) C dX12_in_7 (by decide) hf (fun hf => ?_) (fun hf => ?_)
    · refine s_weak (lv' := [none, none, none]) trivial ?_
      exact k14 hf
    · refine s_iconst C dX12_in_10 (v := (1 : Int32)) (by decide) ?_
      refine s_goto (tgt := 15) C dX12_in_11 (by decide) ?_
      refine s_weak (lv' := [none, none, none]) trivial ?_
      exact k15 _ hf
/-- HillBoxesModel.isUnder(II)Z -/
noncomputable def f_X12_isUnder (a0 : Int32) (a1 : Int32) (h : AH) : Option (Int32 × AH) :=
  jn (
    rz (1 : Int32) h) fun j9 =>
  if a1 = 0 then
    j9
  else
    if a0 = a1 then
      j9
    else
      jn (fun (x1 : Int32) (h2 : AH) =>
        rz x1 h2) fun j40 =>
      jn (fun (h3 : AH) =>
        j40 (1 : Int32) h3) fun j35 =>
      jn (fun (h4 : AH) =>
        jn (
          j40 (0 : Int32) h4) fun j39 =>
        if a1 = (2 : Int32) then
          if a0 = (5 : Int32) then
            j35 h4
          else
            j39
        else
          j39) fun j25 =>
      if a1 = (1 : Int32) then
        cl (f_X12_in a0 (2 : Int32) (5 : Int32) h) fun v6 h5 =>
        if v6 = 0 then
          j25 h5
        else
          j35 h5
      else
        j25 h
set_option maxRecDepth 100000 in
set_option maxHeartbeats 4000000 in
theorem c_X12_isUnder (l : Launch) (D : DT) (a0 : Int32) (a1 : Int32) (h : AH) (r : Int32 × AH) (hf : f_X12_isUnder a0 a1 h = some r) : CM l D yX12_isUnder cX12_isUnder 2 (some .boolean) 1 22 0 0 [.inl a0, .inl a1] h (some (.int r.1)) r.2 := by
  refine CM.of (by decide) (Nat.le_of_ble_eq_true rfl) (fun X hl C hD hX hnm E => ?_)
  subst hl
  subst hD
  have C : CX X RX12 cX12_isUnder 2 := C
  show WW X h 0 0 0 [some (.int a0), some (.int a1)] []
  unfold f_X12_isUnder at hf
  refine s_iload_n C dX12_isUnder_0 rfl ?_
  refine s_jn hf (fun j9 e9 hf => ?_)
  have k9 : j9  = some r → WW X h 0 0 9 [none, none] [] := by
    intro  hf
    rw [e9] at hf
    refine s_iconst C dX12_isUnder_9 (v := (1 : Int32)) (by decide) ?_
    exact s_zreturn C E dX12_isUnder_10 hf (Nat.le_of_ble_eq_true rfl) (Nat.le_of_ble_eq_true rfl)
  refine s_if_eq (tgt := 9) C dX12_isUnder_1 (by decide) hf (fun hf => ?_) (fun hf => ?_)
  · refine s_weak (lv' := [none, none]) trivial ?_
    exact k9 hf
  · refine s_iload_n C dX12_isUnder_4 rfl ?_
    refine s_iload_n C dX12_isUnder_5 rfl ?_
    refine s_icmp_ne (tgt := 11) C dX12_isUnder_6 (by decide) hf (fun hf => ?_) (fun hf => ?_)
    · refine s_iload_n C dX12_isUnder_11 rfl ?_
      refine s_iconst C dX12_isUnder_12 (v := (1 : Int32)) (by decide) ?_
      refine s_jn hf (fun j40 e40 hf => ?_)
      have k40 : ∀ (x1 : Int32) (h2 : AH), j40 x1 h2 = some r → WW X h2 0 0 40 [none, none] [.int x1] := by
        intro x1 h2 hf
        rw [e40] at hf
        exact s_zreturn C E dX12_isUnder_40 hf (Nat.le_of_ble_eq_true rfl) (Nat.le_of_ble_eq_true rfl)
      refine s_jn hf (fun j35 e35 hf => ?_)
      have k35 : ∀ (h3 : AH), j35 h3 = some r → WW X h3 0 0 35 [none, none] [] := by
        intro h3 hf
        rw [e35] at hf
        refine s_iconst C dX12_isUnder_35 (v := (1 : Int32)) (by decide) ?_
        refine s_goto (tgt := 40) C dX12_isUnder_36 (by decide) ?_
        exact k40 _ _ hf
      refine s_jn hf (fun j25 e25 hf => ?_)
      have k25 : ∀ (h4 : AH), j25 h4 = some r → WW X h4 0 0 25 [some (.int a0), some (.int a1)] [] := by
        intro h4 hf
        rw [e25] at hf
        refine s_iload_n C dX12_isUnder_25 rfl ?_
        refine s_iconst C dX12_isUnder_26 (v := (2 : Int32)) (by decide) ?_
        refine s_jn hf (fun j39 e39 hf => ?_)
        have k39 : j39  = some r → WW X h4 0 0 39 [none, none] [] := by
          intro  hf
          rw [e39] at hf
          refine s_iconst C dX12_isUnder_39 (v := (0 : Int32)) (by decide) ?_
          exact k40 _ _ hf
        refine s_icmp_ne (tgt := 39) C dX12_isUnder_27 (by decide) hf (fun hf => ?_) (fun hf => ?_)
        · refine s_weak (lv' := [none, none]) trivial ?_
          exact k39 hf
        · refine s_iload_n C dX12_isUnder_30 rfl ?_
          refine s_iconst C dX12_isUnder_31 (v := (5 : Int32)) (by decide) ?_
          refine s_icmp_ne (tgt := 39) C dX12_isUnder_32 (by decide) hf (fun hf => ?_) (fun hf => ?_)
          · refine s_weak (lv' := [none, none]) trivial ?_
            exact k39 hf
          · refine s_weak (lv' := [none, none]) trivial ?_
            exact k35 _ hf
      refine s_icmp_ne (tgt := 25) C dX12_isUnder_13 (by decide) hf (fun hf => ?_) (fun hf => ?_)
      · exact k25 _ hf
      · refine s_iload_n C dX12_isUnder_16 rfl ?_
        refine s_iconst C dX12_isUnder_17 (v := (2 : Int32)) (by decide) ?_
        refine s_iconst C dX12_isUnder_18 (v := (5 : Int32)) (by decide) ?_
        refine s_callS (rvf := fun x => some (.int x)) (st := []) (fr := 0) (lo := 0) (mc := 0) (ms := 0) C wc_X12_in wml_X12_195 wst_X12_in dX12_isUnder_19 (As := [.inl a0, .inl (2 : Int32), .inl (5 : Int32)]) rfl hf (fun x h' hF => c_X12_in _ _ _ _ _ _ (x, h') hF) rfl (Nat.le_of_ble_eq_true rfl) (room_ok hX (Nat.le_of_ble_eq_true rfl) (Nat.le_of_ble_eq_true rfl)) (cell_ok hX (Nat.le_of_ble_eq_true rfl) (Nat.le_of_ble_eq_true rfl)) (fun v6 h5 hf => ?_)
        refine s_if_ne (tgt := 35) C dX12_isUnder_22 (by decide) hf (fun hf => ?_) (fun hf => ?_)
        · refine s_weak (lv' := [none, none]) trivial ?_
          exact k35 _ hf
        · exact k25 _ hf
    · refine s_weak (lv' := [none, none]) trivial ?_
      exact k9 hf
/-- HillBoxesModel.hides(II)I -/
noncomputable def f_X12_hides (o : Option Nat) (a1 : Int32) (a2 : Int32) (h : AH) : Option (Int32 × AH) :=
  fR h [12] o 4 fun v1 =>
  aI h 20 v1 a1 fun v2 =>
  if v2 = (4 : Int32) then
    rO h [12] o <| cl (f_X12_ran o (50 : Int32) h) fun _ h13 =>
    rO h13 [12] o <| cl (f_X12_boxHides o a1 a2 h13) fun v15 h14 =>
    some ((v15 ^^^ (5 : Int32)), h14)
  else
    fR h [12] o 4 fun v3 =>
    aI h 20 v3 a1 fun v4 =>
    cl (f_X12_isUnder v4 (1 : Int32) h) fun v6 h5 =>
    jn (fun (x7 : Int32) (h8 : AH) =>
      some (x7, h8)) fun j53 =>
    if v6 = 0 then
      rO h5 [12] o <| cl (f_X12_plainHides o a1 a2 h5) fun v10 h9 =>
      j53 v10 h9
    else
      rO h5 [12] o <| cl (f_X12_boxHides o a1 a2 h5) fun v12 h11 =>
      j53 v12 h11
set_option maxRecDepth 100000 in
set_option maxHeartbeats 4000000 in
theorem c_X12_hides (l : Launch) (D : DT) (o : Option Nat) (a1 : Int32) (a2 : Int32) (h : AH) (r : Int32 × AH) (hf : f_X12_hides o a1 a2 h = some r) : CM l D yX12_hides cX12_hides 3 (some .int) 3 65 0 0 [.inr (.inr o), .inl a1, .inl a2] h (some (.int r.1)) r.2 := by
  refine CM.of (by decide) (Nat.le_of_ble_eq_true rfl) (fun X hl C hD hX hnm E => ?_)
  subst hl
  subst hD
  have C : CX X RX12 cX12_hides 3 := C
  show WW X h 0 0 0 [some (rB (xD X).1 o), some (.int a1), some (.int a2)] []
  unfold f_X12_hides at hf
  refine s_aload_n C dX12_hides_0 rfl ?_
  refine s_getR C fl_X12_13 dX12_hides_1 hf (fun v1 hf => ?_)
  refine s_iload_n C dX12_hides_4 rfl ?_
  refine s_iaload C dX12_hides_5 hf (fun v2 hf => ?_)
  refine s_iconst C dX12_hides_6 (v := (4 : Int32)) (by decide) ?_
  refine s_icmp_ne (tgt := 25) C dX12_hides_7 (by decide) hf (fun hf => ?_) (fun hf => ?_)
  · refine s_aload_n C dX12_hides_25 rfl ?_
    refine s_getR C fl_X12_13 dX12_hides_26 hf (fun v3 hf => ?_)
    refine s_iload_n C dX12_hides_29 rfl ?_
    refine s_iaload C dX12_hides_30 hf (fun v4 hf => ?_)
    refine s_iconst C dX12_hides_31 (v := (1 : Int32)) (by decide) ?_
    refine s_callS (rvf := fun x => some (.int x)) (st := []) (fr := 1) (lo := 22) (mc := 0) (ms := 0) C wc_X12_isUnder wml_X12_220 wst_X12_isUnder dX12_hides_32 (As := [.inl v4, .inl (1 : Int32)]) rfl hf (fun x h' hF => c_X12_isUnder _ _ _ _ _ (x, h') hF) rfl (Nat.le_of_ble_eq_true rfl) (room_ok hX (Nat.le_of_ble_eq_true rfl) (Nat.le_of_ble_eq_true rfl)) (cell_ok hX (Nat.le_of_ble_eq_true rfl) (Nat.le_of_ble_eq_true rfl)) (fun v6 h5 hf => ?_)
    refine s_jn hf (fun j53 e53 hf => ?_)
    have k53 : ∀ (x7 : Int32) (h8 : AH), j53 x7 h8 = some r → WW X h8 0 0 53 [none, none, none] [.int x7] := by
      intro x7 h8 hf
      rw [e53] at hf
      exact s_ireturn C E dX12_hides_53 hf (Nat.le_of_ble_eq_true rfl) (Nat.le_of_ble_eq_true rfl)
    refine s_if_eq (tgt := 47) C dX12_hides_35 (by decide) hf (fun hf => ?_) (fun hf => ?_)
    · refine s_aload_n C dX12_hides_47 rfl ?_
      refine s_iload_n C dX12_hides_48 rfl ?_
      refine s_iload_n C dX12_hides_49 rfl ?_
      refine s_callV (rvf := fun x => some (.int x)) (st := []) (fr := 1) (lo := 21) (mc := 0) (ms := 0) C [12] wc_X12_plainHides wml_X12_592 wim_X12_plainHides wsl_12_X12_plainHides dX12_hides_50 (As := [.inl a1, .inl a2]) rfl hf (fun x h' hF => c_X12_plainHides _ _ _ _ _ _ (x, h') hF) rfl (Nat.le_of_ble_eq_true rfl) (room_ok hX (Nat.le_of_ble_eq_true rfl) (Nat.le_of_ble_eq_true rfl)) (cell_ok hX (Nat.le_of_ble_eq_true rfl) (Nat.le_of_ble_eq_true rfl)) (fun v10 h9 hf => ?_)
      refine s_weak (lv' := [none, none, none]) trivial ?_
      exact k53 _ _ hf
    · refine s_aload_n C dX12_hides_38 rfl ?_
      refine s_iload_n C dX12_hides_39 rfl ?_
      refine s_iload_n C dX12_hides_40 rfl ?_
      refine s_callV (rvf := fun x => some (.int x)) (st := []) (fr := 2) (lo := 43) (mc := 0) (ms := 0) C [12] wc_X12_boxHides wml_X12_595 wim_X12_boxHides wsl_12_X12_boxHides dX12_hides_41 (As := [.inl a1, .inl a2]) rfl hf (fun x h' hF => c_X12_boxHides _ _ _ _ _ _ (x, h') hF) rfl (Nat.le_of_ble_eq_true rfl) (room_ok hX (Nat.le_of_ble_eq_true rfl) (Nat.le_of_ble_eq_true rfl)) (cell_ok hX (Nat.le_of_ble_eq_true rfl) (Nat.le_of_ble_eq_true rfl)) (fun v12 h11 hf => ?_)
      refine s_goto (tgt := 53) C dX12_hides_44 (by decide) ?_
      refine s_weak (lv' := [none, none, none]) trivial ?_
      exact k53 _ _ hf
  · refine s_aload_n C dX12_hides_10 rfl ?_
    refine s_bipush C dX12_hides_11 (v := (50 : Int32)) (by decide) ?_
    refine s_callV (rvf := fun _ => none) (st := []) (fr := 0) (lo := 0) (mc := 0) (ms := 0) C [12] wc_X12_ran wml_X12_589 wim_X12_ran wsl_12_X12_ran dX12_hides_13 (As := [.inl (50 : Int32)]) rfl hf (fun x h' hF => c_X12_ran _ _ _ _ _ (x, h') hF) rfl (Nat.le_of_ble_eq_true rfl) (room_ok hX (Nat.le_of_ble_eq_true rfl) (Nat.le_of_ble_eq_true rfl)) (cell_ok hX (Nat.le_of_ble_eq_true rfl) (Nat.le_of_ble_eq_true rfl)) (fun _ h13 hf => ?_)
    refine s_aload_n C dX12_hides_16 rfl ?_
    refine s_iload_n C dX12_hides_17 rfl ?_
    refine s_iload_n C dX12_hides_18 rfl ?_
    refine s_callV (rvf := fun x => some (.int x)) (st := []) (fr := 2) (lo := 43) (mc := 0) (ms := 0) C [12] wc_X12_boxHides wml_X12_595 wim_X12_boxHides wsl_12_X12_boxHides dX12_hides_19 (As := [.inl a1, .inl a2]) rfl hf (fun x h' hF => c_X12_boxHides _ _ _ _ _ _ (x, h') hF) rfl (Nat.le_of_ble_eq_true rfl) (room_ok hX (Nat.le_of_ble_eq_true rfl) (Nat.le_of_ble_eq_true rfl)) (cell_ok hX (Nat.le_of_ble_eq_true rfl) (Nat.le_of_ble_eq_true rfl)) (fun v15 h14 hf => ?_)
    refine s_iconst C dX12_hides_22 (v := (5 : Int32)) (by decide) ?_
    refine s_ixor C dX12_hides_23 ?_
    exact s_ireturn C E dX12_hides_24 hf (Nat.le_of_ble_eq_true rfl) (Nat.le_of_ble_eq_true rfl)
/-- HillBoxesModel.plainTells(II)I -/
noncomputable def f_X12_plainTells (o : Option Nat) (a1 : Int32) (a2 : Int32) (h : AH) : Option (Int32 × AH) :=
  rO h [12] o <| cl (f_X12_ran o (10 : Int32) h) fun _ h1 =>
  rO h1 [12] o <| cl (f_X12_hides o a1 a2 h1) fun v3 h2 =>
  some ((v3 * (2 : Int32)), h2)
set_option maxRecDepth 100000 in
set_option maxHeartbeats 4000000 in
theorem c_X12_plainTells (l : Launch) (D : DT) (o : Option Nat) (a1 : Int32) (a2 : Int32) (h : AH) (r : Int32 × AH) (hf : f_X12_plainTells o a1 a2 h = some r) : CM l D yX12_plainTells cX12_plainTells 3 (some .int) 4 87 0 0 [.inr (.inr o), .inl a1, .inl a2] h (some (.int r.1)) r.2 := by
  refine CM.of (by decide) (Nat.le_of_ble_eq_true rfl) (fun X hl C hD hX hnm E => ?_)
  subst hl
  subst hD
  have C : CX X RX12 cX12_plainTells 3 := C
  show WW X h 0 0 0 [some (rB (xD X).1 o), some (.int a1), some (.int a2)] []
  unfold f_X12_plainTells at hf
  refine s_aload_n C dX12_plainTells_0 rfl ?_
  refine s_bipush C dX12_plainTells_1 (v := (10 : Int32)) (by decide) ?_
  refine s_callV (rvf := fun _ => none) (st := []) (fr := 0) (lo := 0) (mc := 0) (ms := 0) C [12] wc_X12_ran wml_X12_589 wim_X12_ran wsl_12_X12_ran dX12_plainTells_3 (As := [.inl (10 : Int32)]) rfl hf (fun x h' hF => c_X12_ran _ _ _ _ _ (x, h') hF) rfl (Nat.le_of_ble_eq_true rfl) (room_ok hX (Nat.le_of_ble_eq_true rfl) (Nat.le_of_ble_eq_true rfl)) (cell_ok hX (Nat.le_of_ble_eq_true rfl) (Nat.le_of_ble_eq_true rfl)) (fun _ h1 hf => ?_)
  refine s_aload_n C dX12_plainTells_6 rfl ?_
  refine s_iload_n C dX12_plainTells_7 rfl ?_
  refine s_iload_n C dX12_plainTells_8 rfl ?_
  refine s_callV (rvf := fun x => some (.int x)) (st := []) (fr := 3) (lo := 65) (mc := 0) (ms := 0) C [12] wc_X12_hides wml_X12_598 wim_X12_hides wsl_12_X12_hides dX12_plainTells_9 (As := [.inl a1, .inl a2]) rfl hf (fun x h' hF => c_X12_hides _ _ _ _ _ _ (x, h') hF) rfl (Nat.le_of_ble_eq_true rfl) (room_ok hX (Nat.le_of_ble_eq_true rfl) (Nat.le_of_ble_eq_true rfl)) (cell_ok hX (Nat.le_of_ble_eq_true rfl) (Nat.le_of_ble_eq_true rfl)) (fun v3 h2 hf => ?_)
  refine s_iconst C dX12_plainTells_12 (v := (2 : Int32)) (by decide) ?_
  refine s_imul C dX12_plainTells_13 ?_
  exact s_ireturn C E dX12_plainTells_14 hf (Nat.le_of_ble_eq_true rfl) (Nat.le_of_ble_eq_true rfl)
/-- HillBoxesModel.riddleTells(II)I -/
noncomputable def f_X12_riddleTells (o : Option Nat) (a1 : Int32) (a2 : Int32) (h : AH) : Option (Int32 × AH) :=
  rO h [12] o <| cl (f_X12_ran o (30 : Int32) h) fun _ h1 =>
  rO h1 [12] o <| cl (f_X12_plainTells o a1 a2 h1) fun v3 h2 =>
  rO h2 [12] o <| cl (f_X12_finds o a1 (2 : Int32) h2) fun v5 h4 =>
  some ((v3 + v5), h4)
set_option maxRecDepth 100000 in
set_option maxHeartbeats 4000000 in
theorem c_X12_riddleTells (l : Launch) (D : DT) (o : Option Nat) (a1 : Int32) (a2 : Int32) (h : AH) (r : Int32 × AH) (hf : f_X12_riddleTells o a1 a2 h = some r) : CM l D yX12_riddleTells cX12_riddleTells 4 (some .int) 5 109 0 0 [.inr (.inr o), .inl a1, .inl a2] h (some (.int r.1)) r.2 := by
  refine CM.of (by decide) (Nat.le_of_ble_eq_true rfl) (fun X hl C hD hX hnm E => ?_)
  subst hl
  subst hD
  have C : CX X RX12 cX12_riddleTells 4 := C
  show WW X h 0 0 0 [some (rB (xD X).1 o), some (.int a1), some (.int a2), none] []
  unfold f_X12_riddleTells at hf
  refine s_aload_n C dX12_riddleTells_0 rfl ?_
  refine s_bipush C dX12_riddleTells_1 (v := (30 : Int32)) (by decide) ?_
  refine s_callV (rvf := fun _ => none) (st := []) (fr := 0) (lo := 0) (mc := 0) (ms := 0) C [12] wc_X12_ran wml_X12_589 wim_X12_ran wsl_12_X12_ran dX12_riddleTells_3 (As := [.inl (30 : Int32)]) rfl hf (fun x h' hF => c_X12_ran _ _ _ _ _ (x, h') hF) rfl (Nat.le_of_ble_eq_true rfl) (room_ok hX (Nat.le_of_ble_eq_true rfl) (Nat.le_of_ble_eq_true rfl)) (cell_ok hX (Nat.le_of_ble_eq_true rfl) (Nat.le_of_ble_eq_true rfl)) (fun _ h1 hf => ?_)
  refine s_aload_n C dX12_riddleTells_6 rfl ?_
  refine s_iload_n C dX12_riddleTells_7 rfl ?_
  refine s_iload_n C dX12_riddleTells_8 rfl ?_
  refine s_callV (rvf := fun x => some (.int x)) (st := []) (fr := 4) (lo := 87) (mc := 0) (ms := 0) C [12] wc_X12_plainTells wml_X12_601 wim_X12_plainTells wsl_12_X12_plainTells dX12_riddleTells_9 (As := [.inl a1, .inl a2]) rfl hf (fun x h' hF => c_X12_plainTells _ _ _ _ _ _ (x, h') hF) rfl (Nat.le_of_ble_eq_true rfl) (room_ok hX (Nat.le_of_ble_eq_true rfl) (Nat.le_of_ble_eq_true rfl)) (cell_ok hX (Nat.le_of_ble_eq_true rfl) (Nat.le_of_ble_eq_true rfl)) (fun v3 h2 hf => ?_)
  refine s_istore_n C dX12_riddleTells_12 (by decide) (nc_i rfl) (lv' := [some (rB (xD X).1 o), some (.int a1), some (.int a2), some (.int v3)]) rfl ?_
  refine s_iload_n C dX12_riddleTells_13 rfl ?_
  refine s_aload_n C dX12_riddleTells_14 rfl ?_
  refine s_iload_n C dX12_riddleTells_15 rfl ?_
  refine s_iconst C dX12_riddleTells_16 (v := (2 : Int32)) (by decide) ?_
  refine s_callV (rvf := fun x => some (.int x)) (st := [.int v3]) (fr := 2) (lo := 43) (mc := 0) (ms := 0) C [12] wc_X12_finds wml_X12_604 wim_X12_finds wsl_12_X12_finds dX12_riddleTells_17 (As := [.inl a1, .inl (2 : Int32)]) rfl hf (fun x h' hF => c_X12_finds _ _ _ _ _ _ (x, h') hF) rfl (Nat.le_of_ble_eq_true rfl) (room_ok hX (Nat.le_of_ble_eq_true rfl) (Nat.le_of_ble_eq_true rfl)) (cell_ok hX (Nat.le_of_ble_eq_true rfl) (Nat.le_of_ble_eq_true rfl)) (fun v5 h4 hf => ?_)
  refine s_iadd C dX12_riddleTells_20 ?_
  exact s_ireturn C E dX12_riddleTells_21 hf (Nat.le_of_ble_eq_true rfl) (Nat.le_of_ble_eq_true rfl)
/-- HillBoxesModel.tells(II)I -/
noncomputable def f_X12_tells (o : Option Nat) (a1 : Int32) (a2 : Int32) (h : AH) : Option (Int32 × AH) :=
  fR h [12] o 4 fun v1 =>
  aI h 20 v1 a1 fun v2 =>
  if v2 = (5 : Int32) then
    rO h [12] o <| cl (f_X12_ran o (61 : Int32) h) fun _ h18 =>
    rO h18 [12] o <| cl (f_X12_riddleTells o a1 a2 h18) fun v20 h19 =>
    some ((v20 - (1 : Int32)), h19)
  else
    fR h [12] o 4 fun v3 =>
    aI h 20 v3 a1 fun v4 =>
    if v4 = (7 : Int32) then
      rO h [12] o <| cl (f_X12_ran o (80 : Int32) h) fun _ h13 =>
      rO h13 [12] o <| cl (f_X12_plainTells o a1 a2 h13) fun v15 h14 =>
      rO h14 [12] o <| cl (f_X12_plainFinds o a1 a2 h14) fun v17 h16 =>
      some ((v15 + v17), h16)
    else
      fR h [12] o 4 fun v5 =>
      aI h 20 v5 a1 fun v6 =>
      jn (fun (x7 : Int32) (h8 : AH) =>
        some (x7, h8)) fun j83 =>
      if v6 = (2 : Int32) then
        rO h [12] o <| cl (f_X12_riddleTells o a1 a2 h) fun v12 h11 =>
        j83 v12 h11
      else
        rO h [12] o <| cl (f_X12_plainTells o a1 a2 h) fun v10 h9 =>
        j83 v10 h9
set_option maxRecDepth 100000 in
set_option maxHeartbeats 4000000 in
theorem c_X12_tells (l : Launch) (D : DT) (o : Option Nat) (a1 : Int32) (a2 : Int32) (h : AH) (r : Int32 × AH) (hf : f_X12_tells o a1 a2 h = some r) : CM l D yX12_tells cX12_tells 4 (some .int) 6 132 0 0 [.inr (.inr o), .inl a1, .inl a2] h (some (.int r.1)) r.2 := by
  refine CM.of (by decide) (Nat.le_of_ble_eq_true rfl) (fun X hl C hD hX hnm E => ?_)
  subst hl
  subst hD
  have C : CX X RX12 cX12_tells 4 := C
  show WW X h 0 0 0 [some (rB (xD X).1 o), some (.int a1), some (.int a2), none] []
  unfold f_X12_tells at hf
  refine s_aload_n C dX12_tells_0 rfl ?_
  refine s_getR C fl_X12_13 dX12_tells_1 hf (fun v1 hf => ?_)
  refine s_iload_n C dX12_tells_4 rfl ?_
  refine s_iaload C dX12_tells_5 hf (fun v2 hf => ?_)
  refine s_iconst C dX12_tells_6 (v := (5 : Int32)) (by decide) ?_
  refine s_icmp_ne (tgt := 25) C dX12_tells_7 (by decide) hf (fun hf => ?_) (fun hf => ?_)
  · refine s_aload_n C dX12_tells_25 rfl ?_
    refine s_getR C fl_X12_13 dX12_tells_26 hf (fun v3 hf => ?_)
    refine s_iload_n C dX12_tells_29 rfl ?_
    refine s_iaload C dX12_tells_30 hf (fun v4 hf => ?_)
    refine s_bipush C dX12_tells_31 (v := (7 : Int32)) (by decide) ?_
    refine s_icmp_ne (tgt := 58) C dX12_tells_33 (by decide) hf (fun hf => ?_) (fun hf => ?_)
    · refine s_aload_n C dX12_tells_58 rfl ?_
      refine s_getR C fl_X12_13 dX12_tells_59 hf (fun v5 hf => ?_)
      refine s_iload_n C dX12_tells_62 rfl ?_
      refine s_iaload C dX12_tells_63 hf (fun v6 hf => ?_)
      refine s_iconst C dX12_tells_64 (v := (2 : Int32)) (by decide) ?_
      refine s_jn hf (fun j83 e83 hf => ?_)
      have k83 : ∀ (x7 : Int32) (h8 : AH), j83 x7 h8 = some r → WW X h8 0 0 83 [none, none, none, none] [.int x7] := by
        intro x7 h8 hf
        rw [e83] at hf
        exact s_ireturn C E dX12_tells_83 hf (Nat.le_of_ble_eq_true rfl) (Nat.le_of_ble_eq_true rfl)
      refine s_icmp_ne (tgt := 77) C dX12_tells_65 (by decide) hf (fun hf => ?_) (fun hf => ?_)
      · refine s_aload_n C dX12_tells_77 rfl ?_
        refine s_iload_n C dX12_tells_78 rfl ?_
        refine s_iload_n C dX12_tells_79 rfl ?_
        refine s_callV (rvf := fun x => some (.int x)) (st := []) (fr := 4) (lo := 87) (mc := 0) (ms := 0) C [12] wc_X12_plainTells wml_X12_601 wim_X12_plainTells wsl_12_X12_plainTells dX12_tells_80 (As := [.inl a1, .inl a2]) rfl hf (fun x h' hF => c_X12_plainTells _ _ _ _ _ _ (x, h') hF) rfl (Nat.le_of_ble_eq_true rfl) (room_ok hX (Nat.le_of_ble_eq_true rfl) (Nat.le_of_ble_eq_true rfl)) (cell_ok hX (Nat.le_of_ble_eq_true rfl) (Nat.le_of_ble_eq_true rfl)) (fun v10 h9 hf => ?_)
        refine s_weak (lv' := [none, none, none, none]) trivial ?_
        exact k83 _ _ hf
      · refine s_aload_n C dX12_tells_68 rfl ?_
        refine s_iload_n C dX12_tells_69 rfl ?_
        refine s_iload_n C dX12_tells_70 rfl ?_
        refine s_callV (rvf := fun x => some (.int x)) (st := []) (fr := 5) (lo := 109) (mc := 0) (ms := 0) C [12] wc_X12_riddleTells wml_X12_607 wim_X12_riddleTells wsl_12_X12_riddleTells dX12_tells_71 (As := [.inl a1, .inl a2]) rfl hf (fun x h' hF => c_X12_riddleTells _ _ _ _ _ _ (x, h') hF) rfl (Nat.le_of_ble_eq_true rfl) (room_ok hX (Nat.le_of_ble_eq_true rfl) (Nat.le_of_ble_eq_true rfl)) (cell_ok hX (Nat.le_of_ble_eq_true rfl) (Nat.le_of_ble_eq_true rfl)) (fun v12 h11 hf => ?_)
        refine s_goto (tgt := 83) C dX12_tells_74 (by decide) ?_
        refine s_weak (lv' := [none, none, none, none]) trivial ?_
        exact k83 _ _ hf
    · refine s_aload_n C dX12_tells_36 rfl ?_
      refine s_bipush C dX12_tells_37 (v := (80 : Int32)) (by decide) ?_
      refine s_callV (rvf := fun _ => none) (st := []) (fr := 0) (lo := 0) (mc := 0) (ms := 0) C [12] wc_X12_ran wml_X12_589 wim_X12_ran wsl_12_X12_ran dX12_tells_39 (As := [.inl (80 : Int32)]) rfl hf (fun x h' hF => c_X12_ran _ _ _ _ _ (x, h') hF) rfl (Nat.le_of_ble_eq_true rfl) (room_ok hX (Nat.le_of_ble_eq_true rfl) (Nat.le_of_ble_eq_true rfl)) (cell_ok hX (Nat.le_of_ble_eq_true rfl) (Nat.le_of_ble_eq_true rfl)) (fun _ h13 hf => ?_)
      refine s_aload_n C dX12_tells_42 rfl ?_
      refine s_iload_n C dX12_tells_43 rfl ?_
      refine s_iload_n C dX12_tells_44 rfl ?_
      refine s_callV (rvf := fun x => some (.int x)) (st := []) (fr := 4) (lo := 87) (mc := 0) (ms := 0) C [12] wc_X12_plainTells wml_X12_601 wim_X12_plainTells wsl_12_X12_plainTells dX12_tells_45 (As := [.inl a1, .inl a2]) rfl hf (fun x h' hF => c_X12_plainTells _ _ _ _ _ _ (x, h') hF) rfl (Nat.le_of_ble_eq_true rfl) (room_ok hX (Nat.le_of_ble_eq_true rfl) (Nat.le_of_ble_eq_true rfl)) (cell_ok hX (Nat.le_of_ble_eq_true rfl) (Nat.le_of_ble_eq_true rfl)) (fun v15 h14 hf => ?_)
      refine s_istore_n C dX12_tells_48 (by decide) (nc_i rfl) (lv' := [some (rB (xD X).1 o), some (.int a1), some (.int a2), some (.int v15)]) rfl ?_
      refine s_iload_n C dX12_tells_49 rfl ?_
      refine s_aload_n C dX12_tells_50 rfl ?_
      refine s_iload_n C dX12_tells_51 rfl ?_
      refine s_iload_n C dX12_tells_52 rfl ?_
      refine s_callV (rvf := fun x => some (.int x)) (st := [.int v15]) (fr := 1) (lo := 21) (mc := 0) (ms := 0) C [12] wc_X12_plainFinds wml_X12_610 wim_X12_plainFinds wsl_12_X12_plainFinds dX12_tells_53 (As := [.inl a1, .inl a2]) rfl hf (fun x h' hF => c_X12_plainFinds _ _ _ _ _ _ (x, h') hF) rfl (Nat.le_of_ble_eq_true rfl) (room_ok hX (Nat.le_of_ble_eq_true rfl) (Nat.le_of_ble_eq_true rfl)) (cell_ok hX (Nat.le_of_ble_eq_true rfl) (Nat.le_of_ble_eq_true rfl)) (fun v17 h16 hf => ?_)
      refine s_iadd C dX12_tells_56 ?_
      exact s_ireturn C E dX12_tells_57 hf (Nat.le_of_ble_eq_true rfl) (Nat.le_of_ble_eq_true rfl)
  · refine s_aload_n C dX12_tells_10 rfl ?_
    refine s_bipush C dX12_tells_11 (v := (61 : Int32)) (by decide) ?_
    refine s_callV (rvf := fun _ => none) (st := []) (fr := 0) (lo := 0) (mc := 0) (ms := 0) C [12] wc_X12_ran wml_X12_589 wim_X12_ran wsl_12_X12_ran dX12_tells_13 (As := [.inl (61 : Int32)]) rfl hf (fun x h' hF => c_X12_ran _ _ _ _ _ (x, h') hF) rfl (Nat.le_of_ble_eq_true rfl) (room_ok hX (Nat.le_of_ble_eq_true rfl) (Nat.le_of_ble_eq_true rfl)) (cell_ok hX (Nat.le_of_ble_eq_true rfl) (Nat.le_of_ble_eq_true rfl)) (fun _ h18 hf => ?_)
    refine s_aload_n C dX12_tells_16 rfl ?_
    refine s_iload_n C dX12_tells_17 rfl ?_
    refine s_iload_n C dX12_tells_18 rfl ?_
    refine s_callV (rvf := fun x => some (.int x)) (st := []) (fr := 5) (lo := 109) (mc := 0) (ms := 0) C [12] wc_X12_riddleTells wml_X12_607 wim_X12_riddleTells wsl_12_X12_riddleTells dX12_tells_19 (As := [.inl a1, .inl a2]) rfl hf (fun x h' hF => c_X12_riddleTells _ _ _ _ _ _ (x, h') hF) rfl (Nat.le_of_ble_eq_true rfl) (room_ok hX (Nat.le_of_ble_eq_true rfl) (Nat.le_of_ble_eq_true rfl)) (cell_ok hX (Nat.le_of_ble_eq_true rfl) (Nat.le_of_ble_eq_true rfl)) (fun v20 h19 hf => ?_)
    refine s_iconst C dX12_tells_22 (v := (1 : Int32)) (by decide) ?_
    refine s_isub C dX12_tells_23 ?_
    exact s_ireturn C E dX12_tells_24 hf (Nat.le_of_ble_eq_true rfl) (Nat.le_of_ble_eq_true rfl)
/-- HillBoxesModel.plainEnds(II)I -/
noncomputable def f_X12_plainEnds (o : Option Nat) (a1 : Int32) (a2 : Int32) (h : AH) : Option (Int32 × AH) :=
  rO h [12] o <| cl (f_X12_ran o (2 : Int32) h) fun _ h1 =>
  rO h1 [12] o <| cl (f_X12_tells o a1 a2 h1) fun v3 h2 =>
  rO h2 [12] o <| cl (f_X12_finds o a1 (1 : Int32) h2) fun v5 h4 =>
  some ((v3 - v5), h4)
set_option maxRecDepth 100000 in
set_option maxHeartbeats 4000000 in
theorem c_X12_plainEnds (l : Launch) (D : DT) (o : Option Nat) (a1 : Int32) (a2 : Int32) (h : AH) (r : Int32 × AH) (hf : f_X12_plainEnds o a1 a2 h = some r) : CM l D yX12_plainEnds cX12_plainEnds 4 (some .int) 7 155 0 0 [.inr (.inr o), .inl a1, .inl a2] h (some (.int r.1)) r.2 := by
  refine CM.of (by decide) (Nat.le_of_ble_eq_true rfl) (fun X hl C hD hX hnm E => ?_)
  subst hl
  subst hD
  have C : CX X RX12 cX12_plainEnds 4 := C
  show WW X h 0 0 0 [some (rB (xD X).1 o), some (.int a1), some (.int a2), none] []
  unfold f_X12_plainEnds at hf
  refine s_aload_n C dX12_plainEnds_0 rfl ?_
  refine s_iconst C dX12_plainEnds_1 (v := (2 : Int32)) (by decide) ?_
  refine s_callV (rvf := fun _ => none) (st := []) (fr := 0) (lo := 0) (mc := 0) (ms := 0) C [12] wc_X12_ran wml_X12_589 wim_X12_ran wsl_12_X12_ran dX12_plainEnds_2 (As := [.inl (2 : Int32)]) rfl hf (fun x h' hF => c_X12_ran _ _ _ _ _ (x, h') hF) rfl (Nat.le_of_ble_eq_true rfl) (room_ok hX (Nat.le_of_ble_eq_true rfl) (Nat.le_of_ble_eq_true rfl)) (cell_ok hX (Nat.le_of_ble_eq_true rfl) (Nat.le_of_ble_eq_true rfl)) (fun _ h1 hf => ?_)
  refine s_aload_n C dX12_plainEnds_5 rfl ?_
  refine s_iload_n C dX12_plainEnds_6 rfl ?_
  refine s_iload_n C dX12_plainEnds_7 rfl ?_
  refine s_callV (rvf := fun x => some (.int x)) (st := []) (fr := 6) (lo := 132) (mc := 0) (ms := 0) C [12] wc_X12_tells wml_X12_613 wim_X12_tells wsl_12_X12_tells dX12_plainEnds_8 (As := [.inl a1, .inl a2]) rfl hf (fun x h' hF => c_X12_tells _ _ _ _ _ _ (x, h') hF) rfl (Nat.le_of_ble_eq_true rfl) (room_ok hX (Nat.le_of_ble_eq_true rfl) (Nat.le_of_ble_eq_true rfl)) (cell_ok hX (Nat.le_of_ble_eq_true rfl) (Nat.le_of_ble_eq_true rfl)) (fun v3 h2 hf => ?_)
  refine s_istore_n C dX12_plainEnds_11 (by decide) (nc_i rfl) (lv' := [some (rB (xD X).1 o), some (.int a1), some (.int a2), some (.int v3)]) rfl ?_
  refine s_iload_n C dX12_plainEnds_12 rfl ?_
  refine s_aload_n C dX12_plainEnds_13 rfl ?_
  refine s_iload_n C dX12_plainEnds_14 rfl ?_
  refine s_iconst C dX12_plainEnds_15 (v := (1 : Int32)) (by decide) ?_
  refine s_callV (rvf := fun x => some (.int x)) (st := [.int v3]) (fr := 2) (lo := 43) (mc := 0) (ms := 0) C [12] wc_X12_finds wml_X12_604 wim_X12_finds wsl_12_X12_finds dX12_plainEnds_16 (As := [.inl a1, .inl (1 : Int32)]) rfl hf (fun x h' hF => c_X12_finds _ _ _ _ _ _ (x, h') hF) rfl (Nat.le_of_ble_eq_true rfl) (room_ok hX (Nat.le_of_ble_eq_true rfl) (Nat.le_of_ble_eq_true rfl)) (cell_ok hX (Nat.le_of_ble_eq_true rfl) (Nat.le_of_ble_eq_true rfl)) (fun v5 h4 hf => ?_)
  refine s_isub C dX12_plainEnds_19 ?_
  exact s_ireturn C E dX12_plainEnds_20 hf (Nat.le_of_ble_eq_true rfl) (Nat.le_of_ble_eq_true rfl)
/-- HillBoxesModel.ends(II)I -/
noncomputable def f_X12_ends (o : Option Nat) (a1 : Int32) (a2 : Int32) (h : AH) : Option (Int32 × AH) :=
  fR h [12] o 4 fun v1 =>
  aI h 20 v1 a1 fun v2 =>
  if v2 = (4 : Int32) then
    rO h [12] o <| cl (f_X12_ran o (51 : Int32) h) fun _ h10 =>
    rO h10 [12] o <| cl (f_X12_plainEnds o a1 (a2 + (1 : Int32)) h10) fun v12 h11 =>
    some (v12, h11)
  else
    fR h [12] o 4 fun v3 =>
    aI h 20 v3 a1 fun v4 =>
    if v4 = (6 : Int32) then
      rO h [12] o <| cl (f_X12_ran o (70 : Int32) h) fun _ h7 =>
      rO h7 [12] o <| cl (f_X12_plainEnds o a1 a2 h7) fun v9 h8 =>
      some ((v9 * (2 : Int32)), h8)
    else
      rO h [12] o <| cl (f_X12_plainEnds o a1 a2 h) fun v6 h5 =>
      some (v6, h5)
set_option maxRecDepth 100000 in
set_option maxHeartbeats 4000000 in
theorem c_X12_ends (l : Launch) (D : DT) (o : Option Nat) (a1 : Int32) (a2 : Int32) (h : AH) (r : Int32 × AH) (hf : f_X12_ends o a1 a2 h = some r) : CM l D yX12_ends cX12_ends 3 (some .int) 8 178 0 0 [.inr (.inr o), .inl a1, .inl a2] h (some (.int r.1)) r.2 := by
  refine CM.of (by decide) (Nat.le_of_ble_eq_true rfl) (fun X hl C hD hX hnm E => ?_)
  subst hl
  subst hD
  have C : CX X RX12 cX12_ends 3 := C
  show WW X h 0 0 0 [some (rB (xD X).1 o), some (.int a1), some (.int a2)] []
  unfold f_X12_ends at hf
  refine s_aload_n C dX12_ends_0 rfl ?_
  refine s_getR C fl_X12_13 dX12_ends_1 hf (fun v1 hf => ?_)
  refine s_iload_n C dX12_ends_4 rfl ?_
  refine s_iaload C dX12_ends_5 hf (fun v2 hf => ?_)
  refine s_iconst C dX12_ends_6 (v := (4 : Int32)) (by decide) ?_
  refine s_icmp_ne (tgt := 25) C dX12_ends_7 (by decide) hf (fun hf => ?_) (fun hf => ?_)
  · refine s_aload_n C dX12_ends_25 rfl ?_
    refine s_getR C fl_X12_13 dX12_ends_26 hf (fun v3 hf => ?_)
    refine s_iload_n C dX12_ends_29 rfl ?_
    refine s_iaload C dX12_ends_30 hf (fun v4 hf => ?_)
    refine s_bipush C dX12_ends_31 (v := (6 : Int32)) (by decide) ?_
    refine s_icmp_ne (tgt := 51) C dX12_ends_33 (by decide) hf (fun hf => ?_) (fun hf => ?_)
    · refine s_aload_n C dX12_ends_51 rfl ?_
      refine s_iload_n C dX12_ends_52 rfl ?_
      refine s_iload_n C dX12_ends_53 rfl ?_
      refine s_callV (rvf := fun x => some (.int x)) (st := []) (fr := 7) (lo := 155) (mc := 0) (ms := 0) C [12] wc_X12_plainEnds wml_X12_616 wim_X12_plainEnds wsl_12_X12_plainEnds dX12_ends_54 (As := [.inl a1, .inl a2]) rfl hf (fun x h' hF => c_X12_plainEnds _ _ _ _ _ _ (x, h') hF) rfl (Nat.le_of_ble_eq_true rfl) (room_ok hX (Nat.le_of_ble_eq_true rfl) (Nat.le_of_ble_eq_true rfl)) (cell_ok hX (Nat.le_of_ble_eq_true rfl) (Nat.le_of_ble_eq_true rfl)) (fun v6 h5 hf => ?_)
      exact s_ireturn C E dX12_ends_57 hf (Nat.le_of_ble_eq_true rfl) (Nat.le_of_ble_eq_true rfl)
    · refine s_aload_n C dX12_ends_36 rfl ?_
      refine s_bipush C dX12_ends_37 (v := (70 : Int32)) (by decide) ?_
      refine s_callV (rvf := fun _ => none) (st := []) (fr := 0) (lo := 0) (mc := 0) (ms := 0) C [12] wc_X12_ran wml_X12_589 wim_X12_ran wsl_12_X12_ran dX12_ends_39 (As := [.inl (70 : Int32)]) rfl hf (fun x h' hF => c_X12_ran _ _ _ _ _ (x, h') hF) rfl (Nat.le_of_ble_eq_true rfl) (room_ok hX (Nat.le_of_ble_eq_true rfl) (Nat.le_of_ble_eq_true rfl)) (cell_ok hX (Nat.le_of_ble_eq_true rfl) (Nat.le_of_ble_eq_true rfl)) (fun _ h7 hf => ?_)
      refine s_aload_n C dX12_ends_42 rfl ?_
      refine s_iload_n C dX12_ends_43 rfl ?_
      refine s_iload_n C dX12_ends_44 rfl ?_
      refine s_callV (rvf := fun x => some (.int x)) (st := []) (fr := 7) (lo := 155) (mc := 0) (ms := 0) C [12] wc_X12_plainEnds wml_X12_616 wim_X12_plainEnds wsl_12_X12_plainEnds dX12_ends_45 (As := [.inl a1, .inl a2]) rfl hf (fun x h' hF => c_X12_plainEnds _ _ _ _ _ _ (x, h') hF) rfl (Nat.le_of_ble_eq_true rfl) (room_ok hX (Nat.le_of_ble_eq_true rfl) (Nat.le_of_ble_eq_true rfl)) (cell_ok hX (Nat.le_of_ble_eq_true rfl) (Nat.le_of_ble_eq_true rfl)) (fun v9 h8 hf => ?_)
      refine s_iconst C dX12_ends_48 (v := (2 : Int32)) (by decide) ?_
      refine s_imul C dX12_ends_49 ?_
      exact s_ireturn C E dX12_ends_50 hf (Nat.le_of_ble_eq_true rfl) (Nat.le_of_ble_eq_true rfl)
  · refine s_aload_n C dX12_ends_10 rfl ?_
    refine s_bipush C dX12_ends_11 (v := (51 : Int32)) (by decide) ?_
    refine s_callV (rvf := fun _ => none) (st := []) (fr := 0) (lo := 0) (mc := 0) (ms := 0) C [12] wc_X12_ran wml_X12_589 wim_X12_ran wsl_12_X12_ran dX12_ends_13 (As := [.inl (51 : Int32)]) rfl hf (fun x h' hF => c_X12_ran _ _ _ _ _ (x, h') hF) rfl (Nat.le_of_ble_eq_true rfl) (room_ok hX (Nat.le_of_ble_eq_true rfl) (Nat.le_of_ble_eq_true rfl)) (cell_ok hX (Nat.le_of_ble_eq_true rfl) (Nat.le_of_ble_eq_true rfl)) (fun _ h10 hf => ?_)
    refine s_aload_n C dX12_ends_16 rfl ?_
    refine s_iload_n C dX12_ends_17 rfl ?_
    refine s_iload_n C dX12_ends_18 rfl ?_
    refine s_iconst C dX12_ends_19 (v := (1 : Int32)) (by decide) ?_
    refine s_iadd C dX12_ends_20 ?_
    refine s_callV (rvf := fun x => some (.int x)) (st := []) (fr := 7) (lo := 155) (mc := 0) (ms := 0) C [12] wc_X12_plainEnds wml_X12_616 wim_X12_plainEnds wsl_12_X12_plainEnds dX12_ends_21 (As := [.inl a1, .inl (a2 + (1 : Int32))]) rfl hf (fun x h' hF => c_X12_plainEnds _ _ _ _ _ _ (x, h') hF) rfl (Nat.le_of_ble_eq_true rfl) (room_ok hX (Nat.le_of_ble_eq_true rfl) (Nat.le_of_ble_eq_true rfl)) (cell_ok hX (Nat.le_of_ble_eq_true rfl) (Nat.le_of_ble_eq_true rfl)) (fun v12 h11 hf => ?_)
    exact s_ireturn C E dX12_ends_24 hf (Nat.le_of_ble_eq_true rfl) (Nat.le_of_ble_eq_true rfl)
/-- HillBoxesModel.isBody(I)Z -/
noncomputable def f_X12_isBody (o : Option Nat) (a1 : Int32) (h : AH) : Option (Int32 × AH) :=
  fI h [12] o 3 fun v1 =>
  cl (f_X12_in a1 (0 : Int32) (v1 - (1 : Int32)) h) fun v3 h2 =>
  rz v3 h2
set_option maxRecDepth 100000 in
set_option maxHeartbeats 4000000 in
theorem c_X12_isBody (l : Launch) (D : DT) (o : Option Nat) (a1 : Int32) (h : AH) (r : Int32 × AH) (hf : f_X12_isBody o a1 h = some r) : CM l D yX12_isBody cX12_isBody 2 (some .boolean) 1 22 0 0 [.inr (.inr o), .inl a1] h (some (.int r.1)) r.2 := by
  refine CM.of (by decide) (Nat.le_of_ble_eq_true rfl) (fun X hl C hD hX hnm E => ?_)
  subst hl
  subst hD
  have C : CX X RX12 cX12_isBody 2 := C
  show WW X h 0 0 0 [some (rB (xD X).1 o), some (.int a1)] []
  unfold f_X12_isBody at hf
  refine s_iload_n C dX12_isBody_0 rfl ?_
  refine s_iconst C dX12_isBody_1 (v := (0 : Int32)) (by decide) ?_
  refine s_aload_n C dX12_isBody_2 rfl ?_
  refine s_getI C fl_X12_214 dX12_isBody_3 hf (fun v1 hf => ?_)
  refine s_iconst C dX12_isBody_6 (v := (1 : Int32)) (by decide) ?_
  refine s_isub C dX12_isBody_7 ?_
  refine s_callS (rvf := fun x => some (.int x)) (st := []) (fr := 0) (lo := 0) (mc := 0) (ms := 0) C wc_X12_in wml_X12_195 wst_X12_in dX12_isBody_8 (As := [.inl a1, .inl (0 : Int32), .inl (v1 - (1 : Int32))]) rfl hf (fun x h' hF => c_X12_in _ _ _ _ _ _ (x, h') hF) rfl (Nat.le_of_ble_eq_true rfl) (room_ok hX (Nat.le_of_ble_eq_true rfl) (Nat.le_of_ble_eq_true rfl)) (cell_ok hX (Nat.le_of_ble_eq_true rfl) (Nat.le_of_ble_eq_true rfl)) (fun v3 h2 hf => ?_)
  exact s_zreturn C E dX12_isBody_11 hf (Nat.le_of_ble_eq_true rfl) (Nat.le_of_ble_eq_true rfl)
/-- HillBoxesModel.act(III)I -/
noncomputable def f_X12_act (o : Option Nat) (a1 : Int32) (a2 : Int32) (a3 : Int32) (h : AH) : Option (Int32 × AH) :=
  pI h [12] o 84 (0 : Int32) fun h1 =>
  rO h1 [12] o <| cl (f_X12_isBody o a1 h1) fun v3 h2 =>
  jn (fun (h4 : AH) =>
    some ((0 : Int32), h4)) fun j22 =>
  if v3 = 0 then
    j22 h2
  else
    cl (f_X12_in a2 (0 : Int32) (3 : Int32) h2) fun v6 h5 =>
    if v6 = 0 then
      j22 h5
    else
      jn (fun (x7 : Int32) (h8 : AH) =>
        some (x7, h8)) fun j71 =>
      if a2 = 0 then
        rO h5 [12] o <| cl (f_X12_hides o a1 a3 h5) fun v16 h15 =>
        j71 v16 h15
      else
        if a2 = (1 : Int32) then
          rO h5 [12] o <| cl (f_X12_tells o a1 a3 h5) fun v14 h13 =>
          j71 v14 h13
        else
          if a2 = (2 : Int32) then
            rO h5 [12] o <| cl (f_X12_finds o a1 a3 h5) fun v12 h11 =>
            j71 v12 h11
          else
            rO h5 [12] o <| cl (f_X12_ends o a1 a3 h5) fun v10 h9 =>
            j71 v10 h9
set_option maxRecDepth 100000 in
set_option maxHeartbeats 4000000 in
theorem c_X12_act (l : Launch) (D : DT) (o : Option Nat) (a1 : Int32) (a2 : Int32) (a3 : Int32) (h : AH) (r : Int32 × AH) (hf : f_X12_act o a1 a2 a3 h = some r) : CM l D yX12_act cX12_act 4 (some .int) 9 200 0 0 [.inr (.inr o), .inl a1, .inl a2, .inl a3] h (some (.int r.1)) r.2 := by
  refine CM.of (by decide) (Nat.le_of_ble_eq_true rfl) (fun X hl C hD hX hnm E => ?_)
  subst hl
  subst hD
  have C : CX X RX12 cX12_act 4 := C
  show WW X h 0 0 0 [some (rB (xD X).1 o), some (.int a1), some (.int a2), some (.int a3)] []
  unfold f_X12_act at hf
  refine s_aload_n C dX12_act_0 rfl ?_
  refine s_iconst C dX12_act_1 (v := (0 : Int32)) (by decide) ?_
  refine s_putI C fl_X12_586 (by decide) dX12_act_2 hf (fun h1 hf => ?_)
  refine s_aload_n C dX12_act_5 rfl ?_
  refine s_iload_n C dX12_act_6 rfl ?_
  refine s_callV (rvf := fun x => some (.int x)) (st := []) (fr := 1) (lo := 22) (mc := 0) (ms := 0) C [12] wc_X12_isBody wml_X12_217 wim_X12_isBody wsl_12_X12_isBody dX12_act_7 (As := [.inl a1]) rfl hf (fun x h' hF => c_X12_isBody _ _ _ _ _ (x, h') hF) rfl (Nat.le_of_ble_eq_true rfl) (room_ok hX (Nat.le_of_ble_eq_true rfl) (Nat.le_of_ble_eq_true rfl)) (cell_ok hX (Nat.le_of_ble_eq_true rfl) (Nat.le_of_ble_eq_true rfl)) (fun v3 h2 hf => ?_)
  refine s_jn hf (fun j22 e22 hf => ?_)
  have k22 : ∀ (h4 : AH), j22 h4 = some r → WW X h4 0 0 22 [none, none, none, none] [] := by
    intro h4 hf
    rw [e22] at hf
    refine s_iconst C dX12_act_22 (v := (0 : Int32)) (by decide) ?_
    exact s_ireturn C E dX12_act_23 hf (Nat.le_of_ble_eq_true rfl) (Nat.le_of_ble_eq_true rfl)
  refine s_if_eq (tgt := 22) C dX12_act_10 (by decide) hf (fun hf => ?_) (fun hf => ?_)
  · refine s_weak (lv' := [none, none, none, none]) trivial ?_
    exact k22 _ hf
  · refine s_iload_n C dX12_act_13 rfl ?_
    refine s_iconst C dX12_act_14 (v := (0 : Int32)) (by decide) ?_
    refine s_iconst C dX12_act_15 (v := (3 : Int32)) (by decide) ?_
    refine s_callS (rvf := fun x => some (.int x)) (st := []) (fr := 0) (lo := 0) (mc := 0) (ms := 0) C wc_X12_in wml_X12_195 wst_X12_in dX12_act_16 (As := [.inl a2, .inl (0 : Int32), .inl (3 : Int32)]) rfl hf (fun x h' hF => c_X12_in _ _ _ _ _ _ (x, h') hF) rfl (Nat.le_of_ble_eq_true rfl) (room_ok hX (Nat.le_of_ble_eq_true rfl) (Nat.le_of_ble_eq_true rfl)) (cell_ok hX (Nat.le_of_ble_eq_true rfl) (Nat.le_of_ble_eq_true rfl)) (fun v6 h5 hf => ?_)
    refine s_if_ne (tgt := 24) C dX12_act_19 (by decide) hf (fun hf => ?_) (fun hf => ?_)
    · refine s_iload_n C dX12_act_24 rfl ?_
      refine s_jn hf (fun j71 e71 hf => ?_)
      have k71 : ∀ (x7 : Int32) (h8 : AH), j71 x7 h8 = some r → WW X h8 0 0 71 [none, none, none, none] [.int x7] := by
        intro x7 h8 hf
        rw [e71] at hf
        exact s_ireturn C E dX12_act_71 hf (Nat.le_of_ble_eq_true rfl) (Nat.le_of_ble_eq_true rfl)
      refine s_if_ne (tgt := 37) C dX12_act_25 (by decide) hf (fun hf => ?_) (fun hf => ?_)
      · refine s_iload_n C dX12_act_37 rfl ?_
        refine s_iconst C dX12_act_38 (v := (1 : Int32)) (by decide) ?_
        refine s_icmp_ne (tgt := 51) C dX12_act_39 (by decide) hf (fun hf => ?_) (fun hf => ?_)
        · refine s_iload_n C dX12_act_51 rfl ?_
          refine s_iconst C dX12_act_52 (v := (2 : Int32)) (by decide) ?_
          refine s_icmp_ne (tgt := 65) C dX12_act_53 (by decide) hf (fun hf => ?_) (fun hf => ?_)
          · refine s_aload_n C dX12_act_65 rfl ?_
            refine s_iload_n C dX12_act_66 rfl ?_
            refine s_iload_n C dX12_act_67 rfl ?_
            refine s_callV (rvf := fun x => some (.int x)) (st := []) (fr := 8) (lo := 178) (mc := 0) (ms := 0) C [12] wc_X12_ends wml_X12_619 wim_X12_ends wsl_12_X12_ends dX12_act_68 (As := [.inl a1, .inl a3]) rfl hf (fun x h' hF => c_X12_ends _ _ _ _ _ _ (x, h') hF) rfl (Nat.le_of_ble_eq_true rfl) (room_ok hX (Nat.le_of_ble_eq_true rfl) (Nat.le_of_ble_eq_true rfl)) (cell_ok hX (Nat.le_of_ble_eq_true rfl) (Nat.le_of_ble_eq_true rfl)) (fun v10 h9 hf => ?_)
            refine s_weak (lv' := [none, none, none, none]) trivial ?_
            exact k71 _ _ hf
          · refine s_aload_n C dX12_act_56 rfl ?_
            refine s_iload_n C dX12_act_57 rfl ?_
            refine s_iload_n C dX12_act_58 rfl ?_
            refine s_callV (rvf := fun x => some (.int x)) (st := []) (fr := 2) (lo := 43) (mc := 0) (ms := 0) C [12] wc_X12_finds wml_X12_604 wim_X12_finds wsl_12_X12_finds dX12_act_59 (As := [.inl a1, .inl a3]) rfl hf (fun x h' hF => c_X12_finds _ _ _ _ _ _ (x, h') hF) rfl (Nat.le_of_ble_eq_true rfl) (room_ok hX (Nat.le_of_ble_eq_true rfl) (Nat.le_of_ble_eq_true rfl)) (cell_ok hX (Nat.le_of_ble_eq_true rfl) (Nat.le_of_ble_eq_true rfl)) (fun v12 h11 hf => ?_)
            refine s_goto (tgt := 71) C dX12_act_62 (by decide) ?_
            refine s_weak (lv' := [none, none, none, none]) trivial ?_
            exact k71 _ _ hf
        · refine s_aload_n C dX12_act_42 rfl ?_
          refine s_iload_n C dX12_act_43 rfl ?_
          refine s_iload_n C dX12_act_44 rfl ?_
          refine s_callV (rvf := fun x => some (.int x)) (st := []) (fr := 6) (lo := 132) (mc := 0) (ms := 0) C [12] wc_X12_tells wml_X12_613 wim_X12_tells wsl_12_X12_tells dX12_act_45 (As := [.inl a1, .inl a3]) rfl hf (fun x h' hF => c_X12_tells _ _ _ _ _ _ (x, h') hF) rfl (Nat.le_of_ble_eq_true rfl) (room_ok hX (Nat.le_of_ble_eq_true rfl) (Nat.le_of_ble_eq_true rfl)) (cell_ok hX (Nat.le_of_ble_eq_true rfl) (Nat.le_of_ble_eq_true rfl)) (fun v14 h13 hf => ?_)
          refine s_goto (tgt := 71) C dX12_act_48 (by decide) ?_
          refine s_weak (lv' := [none, none, none, none]) trivial ?_
          exact k71 _ _ hf
      · refine s_aload_n C dX12_act_28 rfl ?_
        refine s_iload_n C dX12_act_29 rfl ?_
        refine s_iload_n C dX12_act_30 rfl ?_
        refine s_callV (rvf := fun x => some (.int x)) (st := []) (fr := 3) (lo := 65) (mc := 0) (ms := 0) C [12] wc_X12_hides wml_X12_598 wim_X12_hides wsl_12_X12_hides dX12_act_31 (As := [.inl a1, .inl a3]) rfl hf (fun x h' hF => c_X12_hides _ _ _ _ _ _ (x, h') hF) rfl (Nat.le_of_ble_eq_true rfl) (room_ok hX (Nat.le_of_ble_eq_true rfl) (Nat.le_of_ble_eq_true rfl)) (cell_ok hX (Nat.le_of_ble_eq_true rfl) (Nat.le_of_ble_eq_true rfl)) (fun v16 h15 hf => ?_)
        refine s_goto (tgt := 71) C dX12_act_34 (by decide) ?_
        refine s_weak (lv' := [none, none, none, none]) trivial ?_
        exact k71 _ _ hf
    · refine s_weak (lv' := [none, none, none, none]) trivial ?_
      exact k22 _ hf
/-- HillBoxesModel.isBox(I)Z -/
noncomputable def f_X12_isBox (o : Option Nat) (a1 : Int32) (h : AH) : Option (Int32 × AH) :=
  rO h [12] o <| cl (f_X12_isBody o a1 h) fun v2 h1 =>
  jn (fun (x3 : Int32) (h4 : AH) =>
    rz x3 h4) fun j26 =>
  jn (fun (h5 : AH) =>
    j26 (0 : Int32) h5) fun j25 =>
  if v2 = 0 then
    j25 h1
  else
    fR h1 [12] o 4 fun v6 =>
    aI h1 20 v6 a1 fun v7 =>
    cl (f_X12_isUnder v7 (1 : Int32) h1) fun v9 h8 =>
    if v9 = 0 then
      j25 h8
    else
      j26 (1 : Int32) h8
set_option maxRecDepth 100000 in
set_option maxHeartbeats 4000000 in
theorem c_X12_isBox (l : Launch) (D : DT) (o : Option Nat) (a1 : Int32) (h : AH) (r : Int32 × AH) (hf : f_X12_isBox o a1 h = some r) : CM l D yX12_isBox cX12_isBox 2 (some .boolean) 2 43 0 0 [.inr (.inr o), .inl a1] h (some (.int r.1)) r.2 := by
  refine CM.of (by decide) (Nat.le_of_ble_eq_true rfl) (fun X hl C hD hX hnm E => ?_)
  subst hl
  subst hD
  have C : CX X RX12 cX12_isBox 2 := C
  show WW X h 0 0 0 [some (rB (xD X).1 o), some (.int a1)] []
  unfold f_X12_isBox at hf
  refine s_aload_n C dX12_isBox_0 rfl ?_
  refine s_iload_n C dX12_isBox_1 rfl ?_
  refine s_callV (rvf := fun x => some (.int x)) (st := []) (fr := 1) (lo := 22) (mc := 0) (ms := 0) C [12] wc_X12_isBody wml_X12_217 wim_X12_isBody wsl_12_X12_isBody dX12_isBox_2 (As := [.inl a1]) rfl hf (fun x h' hF => c_X12_isBody _ _ _ _ _ (x, h') hF) rfl (Nat.le_of_ble_eq_true rfl) (room_ok hX (Nat.le_of_ble_eq_true rfl) (Nat.le_of_ble_eq_true rfl)) (cell_ok hX (Nat.le_of_ble_eq_true rfl) (Nat.le_of_ble_eq_true rfl)) (fun v2 h1 hf => ?_)
  refine s_jn hf (fun j26 e26 hf => ?_)
  have k26 : ∀ (x3 : Int32) (h4 : AH), j26 x3 h4 = some r → WW X h4 0 0 26 [none, none] [.int x3] := by
    intro x3 h4 hf
    rw [e26] at hf
    exact s_zreturn C E dX12_isBox_26 hf (Nat.le_of_ble_eq_true rfl) (Nat.le_of_ble_eq_true rfl)
  refine s_jn hf (fun j25 e25 hf => ?_)
  have k25 : ∀ (h5 : AH), j25 h5 = some r → WW X h5 0 0 25 [none, none] [] := by
    intro h5 hf
    rw [e25] at hf
    refine s_iconst C dX12_isBox_25 (v := (0 : Int32)) (by decide) ?_
    exact k26 _ _ hf
  refine s_if_eq (tgt := 25) C dX12_isBox_5 (by decide) hf (fun hf => ?_) (fun hf => ?_)
  · refine s_weak (lv' := [none, none]) trivial ?_
    exact k25 _ hf
  · refine s_aload_n C dX12_isBox_8 rfl ?_
    refine s_getR C fl_X12_13 dX12_isBox_9 hf (fun v6 hf => ?_)
    refine s_iload_n C dX12_isBox_12 rfl ?_
    refine s_iaload C dX12_isBox_13 hf (fun v7 hf => ?_)
    refine s_iconst C dX12_isBox_14 (v := (1 : Int32)) (by decide) ?_
    refine s_callS (rvf := fun x => some (.int x)) (st := []) (fr := 1) (lo := 22) (mc := 0) (ms := 0) C wc_X12_isUnder wml_X12_220 wst_X12_isUnder dX12_isBox_15 (As := [.inl v7, .inl (1 : Int32)]) rfl hf (fun x h' hF => c_X12_isUnder _ _ _ _ _ (x, h') hF) rfl (Nat.le_of_ble_eq_true rfl) (room_ok hX (Nat.le_of_ble_eq_true rfl) (Nat.le_of_ble_eq_true rfl)) (cell_ok hX (Nat.le_of_ble_eq_true rfl) (Nat.le_of_ble_eq_true rfl)) (fun v9 h8 hf => ?_)
    refine s_if_eq (tgt := 25) C dX12_isBox_18 (by decide) hf (fun hf => ?_) (fun hf => ?_)
    · refine s_weak (lv' := [none, none]) trivial ?_
      exact k25 _ hf
    · refine s_iconst C dX12_isBox_21 (v := (1 : Int32)) (by decide) ?_
      refine s_goto (tgt := 26) C dX12_isBox_22 (by decide) ?_
      refine s_weak (lv' := [none, none]) trivial ?_
      exact k26 _ _ hf
/-- HillBoxesModel.isFinder(I)Z -/
noncomputable def f_X12_isFinder (o : Option Nat) (a1 : Int32) (h : AH) : Option (Int32 × AH) :=
  rO h [12] o <| cl (f_X12_isBody o a1 h) fun v2 h1 =>
  jn (fun (x3 : Int32) =>
    rz x3 h1) fun j24 =>
  jn (
    j24 (0 : Int32)) fun j23 =>
  if v2 = 0 then
    j23
  else
    fR h1 [12] o 4 fun v4 =>
    aI h1 20 v4 a1 fun v5 =>
    if v5 = (7 : Int32) then
      j24 (1 : Int32)
    else
      j23
set_option maxRecDepth 100000 in
set_option maxHeartbeats 4000000 in
theorem c_X12_isFinder (l : Launch) (D : DT) (o : Option Nat) (a1 : Int32) (h : AH) (r : Int32 × AH) (hf : f_X12_isFinder o a1 h = some r) : CM l D yX12_isFinder cX12_isFinder 2 (some .boolean) 2 43 0 0 [.inr (.inr o), .inl a1] h (some (.int r.1)) r.2 := by
  refine CM.of (by decide) (Nat.le_of_ble_eq_true rfl) (fun X hl C hD hX hnm E => ?_)
  subst hl
  subst hD
  have C : CX X RX12 cX12_isFinder 2 := C
  show WW X h 0 0 0 [some (rB (xD X).1 o), some (.int a1)] []
  unfold f_X12_isFinder at hf
  refine s_aload_n C dX12_isFinder_0 rfl ?_
  refine s_iload_n C dX12_isFinder_1 rfl ?_
  refine s_callV (rvf := fun x => some (.int x)) (st := []) (fr := 1) (lo := 22) (mc := 0) (ms := 0) C [12] wc_X12_isBody wml_X12_217 wim_X12_isBody wsl_12_X12_isBody dX12_isFinder_2 (As := [.inl a1]) rfl hf (fun x h' hF => c_X12_isBody _ _ _ _ _ (x, h') hF) rfl (Nat.le_of_ble_eq_true rfl) (room_ok hX (Nat.le_of_ble_eq_true rfl) (Nat.le_of_ble_eq_true rfl)) (cell_ok hX (Nat.le_of_ble_eq_true rfl) (Nat.le_of_ble_eq_true rfl)) (fun v2 h1 hf => ?_)
  refine s_jn hf (fun j24 e24 hf => ?_)
  have k24 : ∀ (x3 : Int32), j24 x3 = some r → WW X h1 0 0 24 [none, none] [.int x3] := by
    intro x3 hf
    rw [e24] at hf
    exact s_zreturn C E dX12_isFinder_24 hf (Nat.le_of_ble_eq_true rfl) (Nat.le_of_ble_eq_true rfl)
  refine s_jn hf (fun j23 e23 hf => ?_)
  have k23 : j23  = some r → WW X h1 0 0 23 [none, none] [] := by
    intro  hf
    rw [e23] at hf
    refine s_iconst C dX12_isFinder_23 (v := (0 : Int32)) (by decide) ?_
    exact k24 _ hf
  refine s_if_eq (tgt := 23) C dX12_isFinder_5 (by decide) hf (fun hf => ?_) (fun hf => ?_)
  · refine s_weak (lv' := [none, none]) trivial ?_
    exact k23 hf
  · refine s_aload_n C dX12_isFinder_8 rfl ?_
    refine s_getR C fl_X12_13 dX12_isFinder_9 hf (fun v4 hf => ?_)
    refine s_iload_n C dX12_isFinder_12 rfl ?_
    refine s_iaload C dX12_isFinder_13 hf (fun v5 hf => ?_)
    refine s_bipush C dX12_isFinder_14 (v := (7 : Int32)) (by decide) ?_
    refine s_icmp_ne (tgt := 23) C dX12_isFinder_16 (by decide) hf (fun hf => ?_) (fun hf => ?_)
    · refine s_weak (lv' := [none, none]) trivial ?_
      exact k23 hf
    · refine s_iconst C dX12_isFinder_19 (v := (1 : Int32)) (by decide) ?_
      refine s_goto (tgt := 24) C dX12_isFinder_20 (by decide) ?_
      refine s_weak (lv' := [none, none]) trivial ?_
      exact k24 _ hf
/-- HillBoxesModel.asks(II)I -/
noncomputable def f_X12_asks (o : Option Nat) (a1 : Int32) (a2 : Int32) (h : AH) : Option (Int32 × AH) :=
  rO h [12] o <| cl (f_X12_isFinder o a1 h) fun v2 h1 =>
  jn (fun (h3 : AH) =>
    some ((-1 : Int32), h3)) fun j25 =>
  if v2 = 0 then
    j25 h1
  else
    fR h1 [12] o 7 fun v4 =>
    aI h1 20 v4 a1 fun v5 =>
    if 0 ≤ v5 then
      j25 h1
    else
      rO h1 [12] o <| cl (f_X12_isBox o a2 h1) fun v7 h6 =>
      if v7 = 0 then
        j25 h6
      else
        lp (fun _ => none) (fun (L29 : Int32 → Option (Int32 × AH)) (x8 : Int32) =>
          fR h6 [12] o 62 fun v9 =>
          aI h6 22 v9 a2 fun v10 =>
          if v10 ≤ x8 then
            fR h6 [12] o 7 fun v11 =>
            fR h6 [12] o 8 fun v12 =>
            aI h6 20 v12 a2 fun v13 =>
            aI h6 20 v11 v13 fun v14 =>
            if 0 ≤ v14 then
              fR h6 [12] o 62 fun v15 =>
              aI h6 22 v15 a2 fun v16 =>
              if v16 = (8 : Int32) then
                some ((-3 : Int32), h6)
              else
                fR h6 [12] o 63 fun v17 =>
                fR h6 [12] o 62 fun v18 =>
                aI h6 22 v18 a2 fun v19 =>
                bI h6 21 v17 (((8 : Int32) * a2) + v19) (a1.toInt16.toInt32.toInt16.toInt32) fun h20 =>
                fR h20 [12] o 62 fun v21 =>
                aI h20 22 v21 a2 fun v22 =>
                bI h20 22 v21 a2 (((v22 + (1 : Int32)).toInt8.toInt32).toInt8.toInt32) fun h23 =>
                fR h23 [12] o 62 fun v24 =>
                aI h23 22 v24 a2 fun v25 =>
                some (v25, h23)
            else
              some ((-2 : Int32), h6)
          else
            fR h6 [12] o 63 fun v26 =>
            aI h6 21 v26 (((8 : Int32) * a2) + x8) fun v27 =>
            if v27 = a1 then
              some ((-1 : Int32), h6)
            else
              L29 (x8 + 1)) lpN (0 : Int32)
set_option maxRecDepth 100000 in
set_option maxHeartbeats 4000000 in
theorem c_X12_asks (l : Launch) (D : DT) (o : Option Nat) (a1 : Int32) (a2 : Int32) (h : AH) (r : Int32 × AH) (hf : f_X12_asks o a1 a2 h = some r) : CM l D yX12_asks cX12_asks 4 (some .int) 3 64 0 0 [.inr (.inr o), .inl a1, .inl a2] h (some (.int r.1)) r.2 := by
  refine CM.of (by decide) (Nat.le_of_ble_eq_true rfl) (fun X hl C hD hX hnm E => ?_)
  subst hl
  subst hD
  have C : CX X RX12 cX12_asks 4 := C
  show WW X h 0 0 0 [some (rB (xD X).1 o), some (.int a1), some (.int a2), none] []
  unfold f_X12_asks at hf
  refine s_aload_n C dX12_asks_0 rfl ?_
  refine s_iload_n C dX12_asks_1 rfl ?_
  refine s_callV (rvf := fun x => some (.int x)) (st := []) (fr := 2) (lo := 43) (mc := 0) (ms := 0) C [12] wc_X12_isFinder wml_X12_230 wim_X12_isFinder wsl_12_X12_isFinder dX12_asks_2 (As := [.inl a1]) rfl hf (fun x h' hF => c_X12_isFinder _ _ _ _ _ (x, h') hF) rfl (Nat.le_of_ble_eq_true rfl) (room_ok hX (Nat.le_of_ble_eq_true rfl) (Nat.le_of_ble_eq_true rfl)) (cell_ok hX (Nat.le_of_ble_eq_true rfl) (Nat.le_of_ble_eq_true rfl)) (fun v2 h1 hf => ?_)
  refine s_jn hf (fun j25 e25 hf => ?_)
  have k25 : ∀ (h3 : AH), j25 h3 = some r → WW X h3 0 0 25 [none, none, none, none] [] := by
    intro h3 hf
    rw [e25] at hf
    refine s_iconst C dX12_asks_25 (v := (-1 : Int32)) (by decide) ?_
    exact s_ireturn C E dX12_asks_26 hf (Nat.le_of_ble_eq_true rfl) (Nat.le_of_ble_eq_true rfl)
  refine s_if_eq (tgt := 25) C dX12_asks_5 (by decide) hf (fun hf => ?_) (fun hf => ?_)
  · refine s_weak (lv' := [none, none, none, none]) trivial ?_
    exact k25 _ hf
  · refine s_aload_n C dX12_asks_8 rfl ?_
    refine s_getR C fl_X12_22 dX12_asks_9 hf (fun v4 hf => ?_)
    refine s_iload_n C dX12_asks_12 rfl ?_
    refine s_iaload C dX12_asks_13 hf (fun v5 hf => ?_)
    refine s_if_ge (tgt := 25) C dX12_asks_14 (by decide) hf (fun hf => ?_) (fun hf => ?_)
    · refine s_weak (lv' := [none, none, none, none]) trivial ?_
      exact k25 _ hf
    · refine s_aload_n C dX12_asks_17 rfl ?_
      refine s_iload_n C dX12_asks_18 rfl ?_
      refine s_callV (rvf := fun x => some (.int x)) (st := []) (fr := 2) (lo := 43) (mc := 0) (ms := 0) C [12] wc_X12_isBox wml_X12_224 wim_X12_isBox wsl_12_X12_isBox dX12_asks_19 (As := [.inl a2]) rfl hf (fun x h' hF => c_X12_isBox _ _ _ _ _ (x, h') hF) rfl (Nat.le_of_ble_eq_true rfl) (room_ok hX (Nat.le_of_ble_eq_true rfl) (Nat.le_of_ble_eq_true rfl)) (cell_ok hX (Nat.le_of_ble_eq_true rfl) (Nat.le_of_ble_eq_true rfl)) (fun v7 h6 hf => ?_)
      refine s_if_ne (tgt := 27) C dX12_asks_22 (by decide) hf (fun hf => ?_) (fun hf => ?_)
      · refine s_iconst C dX12_asks_27 (v := (0 : Int32)) (by decide) ?_
        refine s_istore_n C dX12_asks_28 (by decide) (nc_i rfl) (lv' := [some (rB (xD X).1 o), some (.int a1), some (.int a2), some (.int (0 : Int32))]) rfl ?_
        refine s_lp1 hf (fun G29 z29 q29 hf => ?_)
        have k29 : ∀ (n : Nat) (x8 : Int32), G29 n x8 = some r → WW X h6 0 0 29 [some (rB (xD X).1 o), some (.int a1), some (.int a2), some (.int x8)] [] := by
          intro n
          induction n with
          | zero =>
            intro x8 hf
            rw [z29] at hf
            cases hf
          | succ n ih29 =>
            intro x8 hf
            have hf := (q29 n x8).symm.trans hf
            refine s_iload_n C dX12_asks_29 rfl ?_
            refine s_aload_n C dX12_asks_30 rfl ?_
            refine s_getR C fl_X12_130 dX12_asks_31 hf (fun v9 hf => ?_)
            refine s_iload_n C dX12_asks_34 rfl ?_
            refine s_baload C dX12_asks_35 hf (fun v10 hf => ?_)
            refine s_icmp_ge (tgt := 62) C dX12_asks_36 (by decide) hf (fun hf => ?_) (fun hf => ?_)
            · refine s_aload_n C dX12_asks_62 rfl ?_
              refine s_getR C fl_X12_22 dX12_asks_63 hf (fun v11 hf => ?_)
              refine s_aload_n C dX12_asks_66 rfl ?_
              refine s_getR C fl_X12_25 dX12_asks_67 hf (fun v12 hf => ?_)
              refine s_iload_n C dX12_asks_70 rfl ?_
              refine s_iaload C dX12_asks_71 hf (fun v13 hf => ?_)
              refine s_iaload C dX12_asks_72 hf (fun v14 hf => ?_)
              refine s_if_ge (tgt := 79) C dX12_asks_73 (by decide) hf (fun hf => ?_) (fun hf => ?_)
              · refine s_aload_n C dX12_asks_79 rfl ?_
                refine s_getR C fl_X12_130 dX12_asks_80 hf (fun v15 hf => ?_)
                refine s_iload_n C dX12_asks_83 rfl ?_
                refine s_baload C dX12_asks_84 hf (fun v16 hf => ?_)
                refine s_bipush C dX12_asks_85 (v := (8 : Int32)) (by decide) ?_
                refine s_icmp_ne (tgt := 93) C dX12_asks_87 (by decide) hf (fun hf => ?_) (fun hf => ?_)
                · refine s_aload_n C dX12_asks_93 rfl ?_
                  refine s_getR C fl_X12_133 dX12_asks_94 hf (fun v17 hf => ?_)
                  refine s_bipush C dX12_asks_97 (v := (8 : Int32)) (by decide) ?_
                  refine s_iload_n C dX12_asks_99 rfl ?_
                  refine s_imul C dX12_asks_100 ?_
                  refine s_aload_n C dX12_asks_101 rfl ?_
                  refine s_getR C fl_X12_130 dX12_asks_102 hf (fun v18 hf => ?_)
                  refine s_iload_n C dX12_asks_105 rfl ?_
                  refine s_baload C dX12_asks_106 hf (fun v19 hf => ?_)
                  refine s_iadd C dX12_asks_107 ?_
                  refine s_iload_n C dX12_asks_108 rfl ?_
                  refine s_i2s C dX12_asks_109 ?_
                  refine s_sastore C dX12_asks_110 hf (fun h20 hf => ?_)
                  refine s_aload_n C dX12_asks_111 rfl ?_
                  refine s_getR C fl_X12_130 dX12_asks_112 hf (fun v21 hf => ?_)
                  refine s_iload_n C dX12_asks_115 rfl ?_
                  refine s_dup2 C dX12_asks_116 c1_i c1_r ?_
                  refine s_baload C dX12_asks_117 hf (fun v22 hf => ?_)
                  refine s_iconst C dX12_asks_118 (v := (1 : Int32)) (by decide) ?_
                  refine s_iadd C dX12_asks_119 ?_
                  refine s_i2b C dX12_asks_120 ?_
                  refine s_bastore C dX12_asks_121 hf (fun h23 hf => ?_)
                  refine s_aload_n C dX12_asks_122 rfl ?_
                  refine s_getR C fl_X12_130 dX12_asks_123 hf (fun v24 hf => ?_)
                  refine s_iload_n C dX12_asks_126 rfl ?_
                  refine s_baload C dX12_asks_127 hf (fun v25 hf => ?_)
                  exact s_ireturn C E dX12_asks_128 hf (Nat.le_of_ble_eq_true rfl) (Nat.le_of_ble_eq_true rfl)
                · refine s_bipush C dX12_asks_90 (v := (-3 : Int32)) (by decide) ?_
                  exact s_ireturn C E dX12_asks_92 hf (Nat.le_of_ble_eq_true rfl) (Nat.le_of_ble_eq_true rfl)
              · refine s_bipush C dX12_asks_76 (v := (-2 : Int32)) (by decide) ?_
                exact s_ireturn C E dX12_asks_78 hf (Nat.le_of_ble_eq_true rfl) (Nat.le_of_ble_eq_true rfl)
            · refine s_aload_n C dX12_asks_39 rfl ?_
              refine s_getR C fl_X12_133 dX12_asks_40 hf (fun v26 hf => ?_)
              refine s_bipush C dX12_asks_43 (v := (8 : Int32)) (by decide) ?_
              refine s_iload_n C dX12_asks_45 rfl ?_
              refine s_imul C dX12_asks_46 ?_
              refine s_iload_n C dX12_asks_47 rfl ?_
              refine s_iadd C dX12_asks_48 ?_
              refine s_saload C dX12_asks_49 hf (fun v27 hf => ?_)
              refine s_iload_n C dX12_asks_50 rfl ?_
              refine s_icmp_ne (tgt := 56) C dX12_asks_51 (by decide) hf (fun hf => ?_) (fun hf => ?_)
              · refine s_iinc C dX12_asks_56 (v := (x8 + 1)) rfl rfl (by decide) (nc_i rfl) (lv' := [some (rB (xD X).1 o), some (.int a1), some (.int a2), some (.int (x8 + 1))]) rfl ?_
                refine s_goto (tgt := 29) C dX12_asks_59 (by decide) ?_
                exact ih29 _ hf
              · refine s_iconst C dX12_asks_54 (v := (-1 : Int32)) (by decide) ?_
                exact s_ireturn C E dX12_asks_55 hf (Nat.le_of_ble_eq_true rfl) (Nat.le_of_ble_eq_true rfl)
        exact k29 lpN _ hf
      · refine s_weak (lv' := [none, none, none, none]) trivial ?_
        exact k25 _ hf
/-- HillBoxesModel.add(I)I -/
noncomputable def f_X12_add (o : Option Nat) (a1 : Int32) (h : AH) : Option (Int32 × AH) :=
  fR h [12] o 4 fun v1 =>
  fI h [12] o 3 fun v2 =>
  bI h 20 v1 v2 a1 fun h3 =>
  fR h3 [12] o 7 fun v4 =>
  fI h3 [12] o 3 fun v5 =>
  bI h3 20 v4 v5 (-1 : Int32) fun h6 =>
  fR h6 [12] o 6 fun v7 =>
  fI h6 [12] o 3 fun v8 =>
  fI h6 [12] o 1 fun v9 =>
  bI h6 20 v7 v8 v9 fun h10 =>
  fR h10 [12] o 8 fun v11 =>
  fI h10 [12] o 3 fun v12 =>
  bI h10 20 v11 v12 (-1 : Int32) fun h13 =>
  fR h13 [12] o 22 fun v14 =>
  fI h13 [12] o 3 fun v15 =>
  bI h13 20 v14 v15 (-1 : Int32) fun h16 =>
  fI h16 [12] o 3 fun v17 =>
  pI h16 [12] o 3 (v17 + (1 : Int32)) fun h18 =>
  fI h18 [12] o 3 fun v19 =>
  some ((v19 - (1 : Int32)), h18)
set_option maxRecDepth 100000 in
set_option maxHeartbeats 4000000 in
theorem c_X12_add (l : Launch) (D : DT) (o : Option Nat) (a1 : Int32) (h : AH) (r : Int32 × AH) (hf : f_X12_add o a1 h = some r) : CM l D yX12_add cX12_add 2 (some .int) 0 0 0 0 [.inr (.inr o), .inl a1] h (some (.int r.1)) r.2 := by
  refine CM.of (by decide) (Nat.le_of_ble_eq_true rfl) (fun X hl C hD hX hnm E => ?_)
  subst hl
  subst hD
  have C : CX X RX12 cX12_add 2 := C
  show WW X h 0 0 0 [some (rB (xD X).1 o), some (.int a1)] []
  unfold f_X12_add at hf
  refine s_aload_n C dX12_add_0 rfl ?_
  refine s_getR C fl_X12_13 dX12_add_1 hf (fun v1 hf => ?_)
  refine s_aload_n C dX12_add_4 rfl ?_
  refine s_getI C fl_X12_214 dX12_add_5 hf (fun v2 hf => ?_)
  refine s_iload_n C dX12_add_8 rfl ?_
  refine s_iastore C dX12_add_9 hf (fun h3 hf => ?_)
  refine s_aload_n C dX12_add_10 rfl ?_
  refine s_getR C fl_X12_22 dX12_add_11 hf (fun v4 hf => ?_)
  refine s_aload_n C dX12_add_14 rfl ?_
  refine s_getI C fl_X12_214 dX12_add_15 hf (fun v5 hf => ?_)
  refine s_iconst C dX12_add_18 (v := (-1 : Int32)) (by decide) ?_
  refine s_iastore C dX12_add_19 hf (fun h6 hf => ?_)
  refine s_aload_n C dX12_add_20 rfl ?_
  refine s_getR C fl_X12_19 dX12_add_21 hf (fun v7 hf => ?_)
  refine s_aload_n C dX12_add_24 rfl ?_
  refine s_getI C fl_X12_214 dX12_add_25 hf (fun v8 hf => ?_)
  refine s_aload_n C dX12_add_28 rfl ?_
  refine s_getI C fl_X12_203 dX12_add_29 hf (fun v9 hf => ?_)
  refine s_iastore C dX12_add_32 hf (fun h10 hf => ?_)
  refine s_aload_n C dX12_add_33 rfl ?_
  refine s_getR C fl_X12_25 dX12_add_34 hf (fun v11 hf => ?_)
  refine s_aload_n C dX12_add_37 rfl ?_
  refine s_getI C fl_X12_214 dX12_add_38 hf (fun v12 hf => ?_)
  refine s_iconst C dX12_add_41 (v := (-1 : Int32)) (by decide) ?_
  refine s_iastore C dX12_add_42 hf (fun h13 hf => ?_)
  refine s_aload_n C dX12_add_43 rfl ?_
  refine s_getR C fl_X12_59 dX12_add_44 hf (fun v14 hf => ?_)
  refine s_aload_n C dX12_add_47 rfl ?_
  refine s_getI C fl_X12_214 dX12_add_48 hf (fun v15 hf => ?_)
  refine s_iconst C dX12_add_51 (v := (-1 : Int32)) (by decide) ?_
  refine s_iastore C dX12_add_52 hf (fun h16 hf => ?_)
  refine s_aload_n C dX12_add_53 rfl ?_
  refine s_dup C dX12_add_54 c1_r ?_
  refine s_getI C fl_X12_214 dX12_add_55 hf (fun v17 hf => ?_)
  refine s_iconst C dX12_add_58 (v := (1 : Int32)) (by decide) ?_
  refine s_iadd C dX12_add_59 ?_
  refine s_putI C fl_X12_214 (by decide) dX12_add_60 hf (fun h18 hf => ?_)
  refine s_aload_n C dX12_add_63 rfl ?_
  refine s_getI C fl_X12_214 dX12_add_64 hf (fun v19 hf => ?_)
  refine s_iconst C dX12_add_67 (v := (1 : Int32)) (by decide) ?_
  refine s_isub C dX12_add_68 ?_
  exact s_ireturn C E dX12_add_69 hf (Nat.le_of_ble_eq_true rfl) (Nat.le_of_ble_eq_true rfl)
/-- HillBoxesModel.body(I)I -/
noncomputable def f_X12_body (o : Option Nat) (a1 : Int32) (h : AH) : Option (Int32 × AH) :=
  jn (
    fI h [12] o 3 fun v1 =>
    jn (fun (x2 : Int32) (h3 : AH) =>
      some (x2, h3)) fun j32 =>
    if v1 = (150 : Int32) then
      j32 (-3 : Int32) h
    else
      rO h [12] o <| cl (f_X12_add o a1 h) fun v5 h4 =>
      j32 v5 h4) fun j12 =>
  if a1 = 0 then
    j12
  else
    if a1 = (6 : Int32) then
      j12
    else
      some ((-1 : Int32), h)
set_option maxRecDepth 100000 in
set_option maxHeartbeats 4000000 in
theorem c_X12_body (l : Launch) (D : DT) (o : Option Nat) (a1 : Int32) (h : AH) (r : Int32 × AH) (hf : f_X12_body o a1 h = some r) : CM l D yX12_body cX12_body 2 (some .int) 1 21 0 0 [.inr (.inr o), .inl a1] h (some (.int r.1)) r.2 := by
  refine CM.of (by decide) (Nat.le_of_ble_eq_true rfl) (fun X hl C hD hX hnm E => ?_)
  subst hl
  subst hD
  have C : CX X RX12 cX12_body 2 := C
  show WW X h 0 0 0 [some (rB (xD X).1 o), some (.int a1)] []
  unfold f_X12_body at hf
  refine s_iload_n C dX12_body_0 rfl ?_
  refine s_jn hf (fun j12 e12 hf => ?_)
  have k12 : j12  = some r → WW X h 0 0 12 [some (rB (xD X).1 o), some (.int a1)] [] := by
    intro  hf
    rw [e12] at hf
    refine s_aload_n C dX12_body_12 rfl ?_
    refine s_getI C fl_X12_214 dX12_body_13 hf (fun v1 hf => ?_)
    refine s_sipush C dX12_body_16 (v := (150 : Int32)) (by decide) ?_
    refine s_jn hf (fun j32 e32 hf => ?_)
    have k32 : ∀ (x2 : Int32) (h3 : AH), j32 x2 h3 = some r → WW X h3 0 0 32 [none, none] [.int x2] := by
      intro x2 h3 hf
      rw [e32] at hf
      exact s_ireturn C E dX12_body_32 hf (Nat.le_of_ble_eq_true rfl) (Nat.le_of_ble_eq_true rfl)
    refine s_icmp_ne (tgt := 27) C dX12_body_19 (by decide) hf (fun hf => ?_) (fun hf => ?_)
    · refine s_aload_n C dX12_body_27 rfl ?_
      refine s_iload_n C dX12_body_28 rfl ?_
      refine s_callV (rvf := fun x => some (.int x)) (st := []) (fr := 0) (lo := 0) (mc := 0) (ms := 0) C [12] wc_X12_add wml_X12_227 wim_X12_add wsl_12_X12_add dX12_body_29 (As := [.inl a1]) rfl hf (fun x h' hF => c_X12_add _ _ _ _ _ (x, h') hF) rfl (Nat.le_of_ble_eq_true rfl) (room_ok hX (Nat.le_of_ble_eq_true rfl) (Nat.le_of_ble_eq_true rfl)) (cell_ok hX (Nat.le_of_ble_eq_true rfl) (Nat.le_of_ble_eq_true rfl)) (fun v5 h4 hf => ?_)
      refine s_weak (lv' := [none, none]) trivial ?_
      exact k32 _ _ hf
    · refine s_bipush C dX12_body_22 (v := (-3 : Int32)) (by decide) ?_
      refine s_goto (tgt := 32) C dX12_body_24 (by decide) ?_
      refine s_weak (lv' := [none, none]) trivial ?_
      exact k32 _ _ hf
  refine s_if_eq (tgt := 12) C dX12_body_1 (by decide) hf (fun hf => ?_) (fun hf => ?_)
  · exact k12 hf
  · refine s_iload_n C dX12_body_4 rfl ?_
    refine s_bipush C dX12_body_5 (v := (6 : Int32)) (by decide) ?_
    refine s_icmp_eq (tgt := 12) C dX12_body_7 (by decide) hf (fun hf => ?_) (fun hf => ?_)
    · exact k12 hf
    · refine s_iconst C dX12_body_10 (v := (-1 : Int32)) (by decide) ?_
      exact s_ireturn C E dX12_body_11 hf (Nat.le_of_ble_eq_true rfl) (Nat.le_of_ble_eq_true rfl)
/-- HillBoxesModel.sizeOf(I)I -/
noncomputable def f_X12_sizeOf (a0 : Int32) (h : AH) : Option (Int32 × AH) :=
  jn (fun (x1 : Int32) =>
    some (x1, h)) fun j10 =>
  if 0 ≤ a0 then
    j10 a0
  else
    j10 (-a0)
set_option maxRecDepth 100000 in
set_option maxHeartbeats 4000000 in
theorem c_X12_sizeOf (l : Launch) (D : DT) (a0 : Int32) (h : AH) (r : Int32 × AH) (hf : f_X12_sizeOf a0 h = some r) : CM l D yX12_sizeOf cX12_sizeOf 1 (some .int) 0 0 0 0 [.inl a0] h (some (.int r.1)) r.2 := by
  refine CM.of (by decide) (Nat.le_of_ble_eq_true rfl) (fun X hl C hD hX hnm E => ?_)
  subst hl
  subst hD
  have C : CX X RX12 cX12_sizeOf 1 := C
  show WW X h 0 0 0 [some (.int a0)] []
  unfold f_X12_sizeOf at hf
  refine s_iload_n C dX12_sizeOf_0 rfl ?_
  refine s_jn hf (fun j10 e10 hf => ?_)
  have k10 : ∀ (x1 : Int32), j10 x1 = some r → WW X h 0 0 10 [none] [.int x1] := by
    intro x1 hf
    rw [e10] at hf
    exact s_ireturn C E dX12_sizeOf_10 hf (Nat.le_of_ble_eq_true rfl) (Nat.le_of_ble_eq_true rfl)
  refine s_if_ge (tgt := 9) C dX12_sizeOf_1 (by decide) hf (fun hf => ?_) (fun hf => ?_)
  · refine s_iload_n C dX12_sizeOf_9 rfl ?_
    refine s_weak (lv' := [none]) trivial ?_
    exact k10 _ hf
  · refine s_iload_n C dX12_sizeOf_4 rfl ?_
    refine s_ineg C dX12_sizeOf_5 ?_
    refine s_goto (tgt := 10) C dX12_sizeOf_6 (by decide) ?_
    refine s_weak (lv' := [none]) trivial ?_
    exact k10 _ hf
/-- HillBoxesModel.farOf(II)I -/
noncomputable def f_X12_farOf (a0 : Int32) (a1 : Int32) (h : AH) : Option (Int32 × AH) :=
  nz (10 : Int32) <|
  nz (10 : Int32) <|
  cl (f_X12_sizeOf ((a0 / (10 : Int32)) - (a1 / (10 : Int32))) h) fun v2 h1 =>
  nz (10 : Int32) <|
  nz (10 : Int32) <|
  cl (f_X12_sizeOf ((a0 - a0 / (10 : Int32) * (10 : Int32)) - (a1 - a1 / (10 : Int32) * (10 : Int32))) h1) fun v4 h3 =>
  some ((v2 + v4), h3)
set_option maxRecDepth 100000 in
set_option maxHeartbeats 4000000 in
theorem c_X12_farOf (l : Launch) (D : DT) (a0 : Int32) (a1 : Int32) (h : AH) (r : Int32 × AH) (hf : f_X12_farOf a0 a1 h = some r) : CM l D yX12_farOf cX12_farOf 2 (some .int) 1 20 0 0 [.inl a0, .inl a1] h (some (.int r.1)) r.2 := by
  refine CM.of (by decide) (Nat.le_of_ble_eq_true rfl) (fun X hl C hD hX hnm E => ?_)
  subst hl
  subst hD
  have C : CX X RX12 cX12_farOf 2 := C
  show WW X h 0 0 0 [some (.int a0), some (.int a1)] []
  unfold f_X12_farOf at hf
  refine s_iload_n C dX12_farOf_0 rfl ?_
  refine s_bipush C dX12_farOf_1 (v := (10 : Int32)) (by decide) ?_
  refine s_idiv C dX12_farOf_3 hf (fun hf => ?_)
  refine s_iload_n C dX12_farOf_4 rfl ?_
  refine s_bipush C dX12_farOf_5 (v := (10 : Int32)) (by decide) ?_
  refine s_idiv C dX12_farOf_7 hf (fun hf => ?_)
  refine s_isub C dX12_farOf_8 ?_
  refine s_callS (rvf := fun x => some (.int x)) (st := []) (fr := 0) (lo := 0) (mc := 0) (ms := 0) C wc_X12_sizeOf wml_X12_199 wst_X12_sizeOf dX12_farOf_9 (As := [.inl ((a0 / (10 : Int32)) - (a1 / (10 : Int32)))]) rfl hf (fun x h' hF => c_X12_sizeOf _ _ _ _ (x, h') hF) rfl (Nat.le_of_ble_eq_true rfl) (room_ok hX (Nat.le_of_ble_eq_true rfl) (Nat.le_of_ble_eq_true rfl)) (cell_ok hX (Nat.le_of_ble_eq_true rfl) (Nat.le_of_ble_eq_true rfl)) (fun v2 h1 hf => ?_)
  refine s_iload_n C dX12_farOf_12 rfl ?_
  refine s_bipush C dX12_farOf_13 (v := (10 : Int32)) (by decide) ?_
  refine s_irem C dX12_farOf_15 hf (fun hf => ?_)
  refine s_iload_n C dX12_farOf_16 rfl ?_
  refine s_bipush C dX12_farOf_17 (v := (10 : Int32)) (by decide) ?_
  refine s_irem C dX12_farOf_19 hf (fun hf => ?_)
  refine s_isub C dX12_farOf_20 ?_
  refine s_callS (rvf := fun x => some (.int x)) (st := [.int v2]) (fr := 0) (lo := 0) (mc := 0) (ms := 0) C wc_X12_sizeOf wml_X12_199 wst_X12_sizeOf dX12_farOf_21 (As := [.inl ((a0 - a0 / (10 : Int32) * (10 : Int32)) - (a1 - a1 / (10 : Int32) * (10 : Int32)))]) rfl hf (fun x h' hF => c_X12_sizeOf _ _ _ _ (x, h') hF) rfl (Nat.le_of_ble_eq_true rfl) (room_ok hX (Nat.le_of_ble_eq_true rfl) (Nat.le_of_ble_eq_true rfl)) (cell_ok hX (Nat.le_of_ble_eq_true rfl) (Nat.le_of_ble_eq_true rfl)) (fun v4 h3 hf => ?_)
  refine s_iadd C dX12_farOf_24 ?_
  exact s_ireturn C E dX12_farOf_25 hf (Nat.le_of_ble_eq_true rfl) (Nat.le_of_ble_eq_true rfl)
/-- HillBoxesModel.isThing(I)Z -/
noncomputable def f_X12_isThing (o : Option Nat) (a1 : Int32) (h : AH) : Option (Int32 × AH) :=
  rO h [12] o <| cl (f_X12_isBody o a1 h) fun v2 h1 =>
  jn (fun (x3 : Int32) =>
    rz x3 h1) fun j24 =>
  jn (
    j24 (0 : Int32)) fun j23 =>
  if v2 = 0 then
    j23
  else
    fR h1 [12] o 4 fun v4 =>
    aI h1 20 v4 a1 fun v5 =>
    if v5 = (6 : Int32) then
      j24 (1 : Int32)
    else
      j23
set_option maxRecDepth 100000 in
set_option maxHeartbeats 4000000 in
theorem c_X12_isThing (l : Launch) (D : DT) (o : Option Nat) (a1 : Int32) (h : AH) (r : Int32 × AH) (hf : f_X12_isThing o a1 h = some r) : CM l D yX12_isThing cX12_isThing 2 (some .boolean) 2 43 0 0 [.inr (.inr o), .inl a1] h (some (.int r.1)) r.2 := by
  refine CM.of (by decide) (Nat.le_of_ble_eq_true rfl) (fun X hl C hD hX hnm E => ?_)
  subst hl
  subst hD
  have C : CX X RX12 cX12_isThing 2 := C
  show WW X h 0 0 0 [some (rB (xD X).1 o), some (.int a1)] []
  unfold f_X12_isThing at hf
  refine s_aload_n C dX12_isThing_0 rfl ?_
  refine s_iload_n C dX12_isThing_1 rfl ?_
  refine s_callV (rvf := fun x => some (.int x)) (st := []) (fr := 1) (lo := 22) (mc := 0) (ms := 0) C [12] wc_X12_isBody wml_X12_217 wim_X12_isBody wsl_12_X12_isBody dX12_isThing_2 (As := [.inl a1]) rfl hf (fun x h' hF => c_X12_isBody _ _ _ _ _ (x, h') hF) rfl (Nat.le_of_ble_eq_true rfl) (room_ok hX (Nat.le_of_ble_eq_true rfl) (Nat.le_of_ble_eq_true rfl)) (cell_ok hX (Nat.le_of_ble_eq_true rfl) (Nat.le_of_ble_eq_true rfl)) (fun v2 h1 hf => ?_)
  refine s_jn hf (fun j24 e24 hf => ?_)
  have k24 : ∀ (x3 : Int32), j24 x3 = some r → WW X h1 0 0 24 [none, none] [.int x3] := by
    intro x3 hf
    rw [e24] at hf
    exact s_zreturn C E dX12_isThing_24 hf (Nat.le_of_ble_eq_true rfl) (Nat.le_of_ble_eq_true rfl)
  refine s_jn hf (fun j23 e23 hf => ?_)
  have k23 : j23  = some r → WW X h1 0 0 23 [none, none] [] := by
    intro  hf
    rw [e23] at hf
    refine s_iconst C dX12_isThing_23 (v := (0 : Int32)) (by decide) ?_
    exact k24 _ hf
  refine s_if_eq (tgt := 23) C dX12_isThing_5 (by decide) hf (fun hf => ?_) (fun hf => ?_)
  · refine s_weak (lv' := [none, none]) trivial ?_
    exact k23 hf
  · refine s_aload_n C dX12_isThing_8 rfl ?_
    refine s_getR C fl_X12_13 dX12_isThing_9 hf (fun v4 hf => ?_)
    refine s_iload_n C dX12_isThing_12 rfl ?_
    refine s_iaload C dX12_isThing_13 hf (fun v5 hf => ?_)
    refine s_bipush C dX12_isThing_14 (v := (6 : Int32)) (by decide) ?_
    refine s_icmp_ne (tgt := 23) C dX12_isThing_16 (by decide) hf (fun hf => ?_) (fun hf => ?_)
    · refine s_weak (lv' := [none, none]) trivial ?_
      exact k23 hf
    · refine s_iconst C dX12_isThing_19 (v := (1 : Int32)) (by decide) ?_
      refine s_goto (tgt := 24) C dX12_isThing_20 (by decide) ?_
      refine s_weak (lv' := [none, none]) trivial ?_
      exact k24 _ hf
/-- HillBoxesModel.liesNow(I)I -/
noncomputable def f_X12_liesNow (o : Option Nat) (a1 : Int32) (h : AH) : Option (Int32 × AH) :=
  fR h [12] o 4 fun v1 =>
  aI h 20 v1 a1 fun v2 =>
  jn (fun (x3 : Int32) (h4 : AH) =>
    some (x3, h4)) fun j35 =>
  if v2 = (3 : Int32) then
    fR h [12] o 10 fun v7 =>
    fR h [12] o 9 fun v8 =>
    aI h 20 v8 a1 fun v9 =>
    aI h 20 v7 ((((4 : Int32) * a1) + v9) - (1 : Int32)) fun v10 =>
    j35 v10 h
  else
    rO h [12] o <| cl (f_X12_cellNow o a1 h) fun v6 h5 =>
    j35 v6 h5
set_option maxRecDepth 100000 in
set_option maxHeartbeats 4000000 in
theorem c_X12_liesNow (l : Launch) (D : DT) (o : Option Nat) (a1 : Int32) (h : AH) (r : Int32 × AH) (hf : f_X12_liesNow o a1 h = some r) : CM l D yX12_liesNow cX12_liesNow 2 (some .int) 1 22 0 0 [.inr (.inr o), .inl a1] h (some (.int r.1)) r.2 := by
  refine CM.of (by decide) (Nat.le_of_ble_eq_true rfl) (fun X hl C hD hX hnm E => ?_)
  subst hl
  subst hD
  have C : CX X RX12 cX12_liesNow 2 := C
  show WW X h 0 0 0 [some (rB (xD X).1 o), some (.int a1)] []
  unfold f_X12_liesNow at hf
  refine s_aload_n C dX12_liesNow_0 rfl ?_
  refine s_getR C fl_X12_13 dX12_liesNow_1 hf (fun v1 hf => ?_)
  refine s_iload_n C dX12_liesNow_4 rfl ?_
  refine s_iaload C dX12_liesNow_5 hf (fun v2 hf => ?_)
  refine s_iconst C dX12_liesNow_6 (v := (3 : Int32)) (by decide) ?_
  refine s_jn hf (fun j35 e35 hf => ?_)
  have k35 : ∀ (x3 : Int32) (h4 : AH), j35 x3 h4 = some r → WW X h4 0 0 35 [none, none] [.int x3] := by
    intro x3 h4 hf
    rw [e35] at hf
    exact s_ireturn C E dX12_liesNow_35 hf (Nat.le_of_ble_eq_true rfl) (Nat.le_of_ble_eq_true rfl)
  refine s_icmp_ne (tgt := 30) C dX12_liesNow_7 (by decide) hf (fun hf => ?_) (fun hf => ?_)
  · refine s_aload_n C dX12_liesNow_30 rfl ?_
    refine s_iload_n C dX12_liesNow_31 rfl ?_
    refine s_callV (rvf := fun x => some (.int x)) (st := []) (fr := 0) (lo := 0) (mc := 0) (ms := 0) C [12] wc_X12_cellNow wml_X12_239 wim_X12_cellNow wsl_12_X12_cellNow dX12_liesNow_32 (As := [.inl a1]) rfl hf (fun x h' hF => c_X12_cellNow _ _ _ _ _ (x, h') hF) rfl (Nat.le_of_ble_eq_true rfl) (room_ok hX (Nat.le_of_ble_eq_true rfl) (Nat.le_of_ble_eq_true rfl)) (cell_ok hX (Nat.le_of_ble_eq_true rfl) (Nat.le_of_ble_eq_true rfl)) (fun v6 h5 hf => ?_)
    refine s_weak (lv' := [none, none]) trivial ?_
    exact k35 _ _ hf
  · refine s_aload_n C dX12_liesNow_10 rfl ?_
    refine s_getR C fl_X12_31 dX12_liesNow_11 hf (fun v7 hf => ?_)
    refine s_iconst C dX12_liesNow_14 (v := (4 : Int32)) (by decide) ?_
    refine s_iload_n C dX12_liesNow_15 rfl ?_
    refine s_imul C dX12_liesNow_16 ?_
    refine s_aload_n C dX12_liesNow_17 rfl ?_
    refine s_getR C fl_X12_28 dX12_liesNow_18 hf (fun v8 hf => ?_)
    refine s_iload_n C dX12_liesNow_21 rfl ?_
    refine s_iaload C dX12_liesNow_22 hf (fun v9 hf => ?_)
    refine s_iadd C dX12_liesNow_23 ?_
    refine s_iconst C dX12_liesNow_24 (v := (1 : Int32)) (by decide) ?_
    refine s_isub C dX12_liesNow_25 ?_
    refine s_iaload C dX12_liesNow_26 hf (fun v10 hf => ?_)
    refine s_goto (tgt := 35) C dX12_liesNow_27 (by decide) ?_
    refine s_weak (lv' := [none, none]) trivial ?_
    exact k35 _ _ hf
/-- HillBoxesModel.liesAtMoment(II)I -/
noncomputable def f_X12_liesAtMoment (o : Option Nat) (a1 : Int32) (a2 : Int32) (h : AH) : Option (Int32 × AH) :=
  fR h [12] o 6 fun v1 =>
  aI h 20 v1 a1 fun v2 =>
  jn (
    some ((-2 : Int32), h)) fun j35 =>
  if a2 < ((24 : Int32) * v2) then
    j35
  else
    fR h [12] o 7 fun v3 =>
    aI h 20 v3 a1 fun v4 =>
    jn (
      fR h [12] o 4 fun v5 =>
      aI h 20 v5 a1 fun v6 =>
      if v6 = (3 : Int32) then
        rO h [12] o <| cl (f_X12_liesNow o a1 h) fun v18 h17 =>
        some (v18, h17)
      else
        fI h [12] o 13 fun v7 =>
        lp (fun _ => none) (fun (L61 : Int32 → Option (Int32 × AH)) (x8 : Int32) =>
          if x8 < 0 then
            fR h [12] o 5 fun v9 =>
            aI h 20 v9 a1 fun v10 =>
            some (v10, h)
          else
            fR h [12] o 14 fun v11 =>
            aI h 20 v11 x8 fun v12 =>
            jn (
              L61 (x8 + (-1))) fun j92 =>
            if v12 = a1 then
              fR h [12] o 16 fun v13 =>
              aI h 20 v13 x8 fun v14 =>
              if a2 < v14 then
                j92
              else
                fR h [12] o 15 fun v15 =>
                aI h 20 v15 x8 fun v16 =>
                some (v16, h)
            else
              j92) lpN (v7 - (1 : Int32))) fun j38 =>
    if v4 < 0 then
      j38
    else
      fR h [12] o 7 fun v19 =>
      aI h 20 v19 a1 fun v20 =>
      if a2 < ((24 : Int32) * v20) then
        j38
      else
        j35
set_option maxRecDepth 100000 in
set_option maxHeartbeats 4000000 in
theorem c_X12_liesAtMoment (l : Launch) (D : DT) (o : Option Nat) (a1 : Int32) (a2 : Int32) (h : AH) (r : Int32 × AH) (hf : f_X12_liesAtMoment o a1 a2 h = some r) : CM l D yX12_liesAtMoment cX12_liesAtMoment 4 (some .int) 2 43 0 0 [.inr (.inr o), .inl a1, .inl a2] h (some (.int r.1)) r.2 := by
  refine CM.of (by decide) (Nat.le_of_ble_eq_true rfl) (fun X hl C hD hX hnm E => ?_)
  subst hl
  subst hD
  have C : CX X RX12 cX12_liesAtMoment 4 := C
  show WW X h 0 0 0 [some (rB (xD X).1 o), some (.int a1), some (.int a2), none] []
  unfold f_X12_liesAtMoment at hf
  refine s_iload_n C dX12_liesAtMoment_0 rfl ?_
  refine s_bipush C dX12_liesAtMoment_1 (v := (24 : Int32)) (by decide) ?_
  refine s_aload_n C dX12_liesAtMoment_3 rfl ?_
  refine s_getR C fl_X12_19 dX12_liesAtMoment_4 hf (fun v1 hf => ?_)
  refine s_iload_n C dX12_liesAtMoment_7 rfl ?_
  refine s_iaload C dX12_liesAtMoment_8 hf (fun v2 hf => ?_)
  refine s_imul C dX12_liesAtMoment_9 ?_
  refine s_jn hf (fun j35 e35 hf => ?_)
  have k35 : j35  = some r → WW X h 0 0 35 [none, none, none, none] [] := by
    intro  hf
    rw [e35] at hf
    refine s_bipush C dX12_liesAtMoment_35 (v := (-2 : Int32)) (by decide) ?_
    exact s_ireturn C E dX12_liesAtMoment_37 hf (Nat.le_of_ble_eq_true rfl) (Nat.le_of_ble_eq_true rfl)
  refine s_icmp_lt (tgt := 35) C dX12_liesAtMoment_10 (by decide) hf (fun hf => ?_) (fun hf => ?_)
  · refine s_weak (lv' := [none, none, none, none]) trivial ?_
    exact k35 hf
  · refine s_aload_n C dX12_liesAtMoment_13 rfl ?_
    refine s_getR C fl_X12_22 dX12_liesAtMoment_14 hf (fun v3 hf => ?_)
    refine s_iload_n C dX12_liesAtMoment_17 rfl ?_
    refine s_iaload C dX12_liesAtMoment_18 hf (fun v4 hf => ?_)
    refine s_jn hf (fun j38 e38 hf => ?_)
    have k38 : j38  = some r → WW X h 0 0 38 [some (rB (xD X).1 o), some (.int a1), some (.int a2), none] [] := by
      intro  hf
      rw [e38] at hf
      refine s_aload_n C dX12_liesAtMoment_38 rfl ?_
      refine s_getR C fl_X12_13 dX12_liesAtMoment_39 hf (fun v5 hf => ?_)
      refine s_iload_n C dX12_liesAtMoment_42 rfl ?_
      refine s_iaload C dX12_liesAtMoment_43 hf (fun v6 hf => ?_)
      refine s_iconst C dX12_liesAtMoment_44 (v := (3 : Int32)) (by decide) ?_
      refine s_icmp_ne (tgt := 54) C dX12_liesAtMoment_45 (by decide) hf (fun hf => ?_) (fun hf => ?_)
      · refine s_aload_n C dX12_liesAtMoment_54 rfl ?_
        refine s_getI C fl_X12_236 dX12_liesAtMoment_55 hf (fun v7 hf => ?_)
        refine s_iconst C dX12_liesAtMoment_58 (v := (1 : Int32)) (by decide) ?_
        refine s_isub C dX12_liesAtMoment_59 ?_
        refine s_istore_n C dX12_liesAtMoment_60 (by decide) (nc_i rfl) (lv' := [some (rB (xD X).1 o), some (.int a1), some (.int a2), some (.int (v7 - (1 : Int32)))]) rfl ?_
        refine s_lp1 hf (fun G61 z61 q61 hf => ?_)
        have k61 : ∀ (n : Nat) (x8 : Int32), G61 n x8 = some r → WW X h 0 0 61 [some (rB (xD X).1 o), some (.int a1), some (.int a2), some (.int x8)] [] := by
          intro n
          induction n with
          | zero =>
            intro x8 hf
            rw [z61] at hf
            cases hf
          | succ n ih61 =>
            intro x8 hf
            have hf := (q61 n x8).symm.trans hf
            refine s_iload_n C dX12_liesAtMoment_61 rfl ?_
            refine s_if_lt (tgt := 98) C dX12_liesAtMoment_62 (by decide) hf (fun hf => ?_) (fun hf => ?_)
            · refine s_aload_n C dX12_liesAtMoment_98 rfl ?_
              refine s_getR C fl_X12_16 dX12_liesAtMoment_99 hf (fun v9 hf => ?_)
              refine s_iload_n C dX12_liesAtMoment_102 rfl ?_
              refine s_iaload C dX12_liesAtMoment_103 hf (fun v10 hf => ?_)
              exact s_ireturn C E dX12_liesAtMoment_104 hf (Nat.le_of_ble_eq_true rfl) (Nat.le_of_ble_eq_true rfl)
            · refine s_aload_n C dX12_liesAtMoment_65 rfl ?_
              refine s_getR C fl_X12_37 dX12_liesAtMoment_66 hf (fun v11 hf => ?_)
              refine s_iload_n C dX12_liesAtMoment_69 rfl ?_
              refine s_iaload C dX12_liesAtMoment_70 hf (fun v12 hf => ?_)
              refine s_iload_n C dX12_liesAtMoment_71 rfl ?_
              refine s_jn hf (fun j92 e92 hf => ?_)
              have k92 : j92  = some r → WW X h 0 0 92 [some (rB (xD X).1 o), some (.int a1), some (.int a2), some (.int x8)] [] := by
                intro  hf
                rw [e92] at hf
                refine s_iinc C dX12_liesAtMoment_92 (v := (x8 + (-1))) rfl rfl (by decide) (nc_i rfl) (lv' := [some (rB (xD X).1 o), some (.int a1), some (.int a2), some (.int (x8 + (-1)))]) rfl ?_
                refine s_goto (tgt := 61) C dX12_liesAtMoment_95 (by decide) ?_
                exact ih61 _ hf
              refine s_icmp_ne (tgt := 92) C dX12_liesAtMoment_72 (by decide) hf (fun hf => ?_) (fun hf => ?_)
              · exact k92 hf
              · refine s_aload_n C dX12_liesAtMoment_75 rfl ?_
                refine s_getR C fl_X12_43 dX12_liesAtMoment_76 hf (fun v13 hf => ?_)
                refine s_iload_n C dX12_liesAtMoment_79 rfl ?_
                refine s_iaload C dX12_liesAtMoment_80 hf (fun v14 hf => ?_)
                refine s_iload_n C dX12_liesAtMoment_81 rfl ?_
                refine s_icmp_gt (tgt := 92) C dX12_liesAtMoment_82 (by decide) hf (fun hf => ?_) (fun hf => ?_)
                · exact k92 hf
                · refine s_aload_n C dX12_liesAtMoment_85 rfl ?_
                  refine s_getR C fl_X12_40 dX12_liesAtMoment_86 hf (fun v15 hf => ?_)
                  refine s_iload_n C dX12_liesAtMoment_89 rfl ?_
                  refine s_iaload C dX12_liesAtMoment_90 hf (fun v16 hf => ?_)
                  exact s_ireturn C E dX12_liesAtMoment_91 hf (Nat.le_of_ble_eq_true rfl) (Nat.le_of_ble_eq_true rfl)
        exact k61 lpN _ hf
      · refine s_aload_n C dX12_liesAtMoment_48 rfl ?_
        refine s_iload_n C dX12_liesAtMoment_49 rfl ?_
        refine s_callV (rvf := fun x => some (.int x)) (st := []) (fr := 1) (lo := 22) (mc := 0) (ms := 0) C [12] wc_X12_liesNow wml_X12_242 wim_X12_liesNow wsl_12_X12_liesNow dX12_liesAtMoment_50 (As := [.inl a1]) rfl hf (fun x h' hF => c_X12_liesNow _ _ _ _ _ (x, h') hF) rfl (Nat.le_of_ble_eq_true rfl) (room_ok hX (Nat.le_of_ble_eq_true rfl) (Nat.le_of_ble_eq_true rfl)) (cell_ok hX (Nat.le_of_ble_eq_true rfl) (Nat.le_of_ble_eq_true rfl)) (fun v18 h17 hf => ?_)
        exact s_ireturn C E dX12_liesAtMoment_53 hf (Nat.le_of_ble_eq_true rfl) (Nat.le_of_ble_eq_true rfl)
    refine s_if_lt (tgt := 38) C dX12_liesAtMoment_19 (by decide) hf (fun hf => ?_) (fun hf => ?_)
    · exact k38 hf
    · refine s_iload_n C dX12_liesAtMoment_22 rfl ?_
      refine s_bipush C dX12_liesAtMoment_23 (v := (24 : Int32)) (by decide) ?_
      refine s_aload_n C dX12_liesAtMoment_25 rfl ?_
      refine s_getR C fl_X12_22 dX12_liesAtMoment_26 hf (fun v19 hf => ?_)
      refine s_iload_n C dX12_liesAtMoment_29 rfl ?_
      refine s_iaload C dX12_liesAtMoment_30 hf (fun v20 hf => ?_)
      refine s_imul C dX12_liesAtMoment_31 ?_
      refine s_icmp_lt (tgt := 38) C dX12_liesAtMoment_32 (by decide) hf (fun hf => ?_) (fun hf => ?_)
      · exact k38 hf
      · refine s_weak (lv' := [none, none, none, none]) trivial ?_
        exact k35 hf
/-- HillBoxesModel.chain(I)I -/
noncomputable def f_X12_chain (o : Option Nat) (a1 : Int32) (h : AH) : Option (Int32 × AH) :=
  rO h [12] o <| cl (f_X12_isThing o a1 h) fun v2 h1 =>
  if v2 = 0 then
    some ((-1 : Int32), h1)
  else
    lp (fun _ _ _ _ => none) (fun (L20 : Int32 → Int32 → Int32 → AH → Option (Int32 × AH)) (x3 : Int32) (x4 : Int32) (x5 : Int32) (h6 : AH) =>
      fR h6 [12] o 59 fun v7 =>
      aI h6 20 v7 a1 fun v8 =>
      if (((12 : Int32) * a1) + v8) ≤ x5 then
        some (x3, h6)
      else
        fR h6 [12] o 61 fun v9 =>
        aI h6 23 v9 x5 fun v10 =>
        jn (fun (x11 : Int32) (x12 : Int32) (h13 : AH) =>
          L20 x11 x12 (x5 + 1) h13) fun j127 =>
        if v10 = 0 then
          j127 x3 x4 h6
        else
          fR h6 [12] o 60 fun v14 =>
          aI h6 21 v14 x5 fun v15 =>
          jn (fun (x16 : Int32) (h17 : AH) =>
            j127 x16 v15 h17) fun j124 =>
          if x4 < 0 then
            j124 x3 h6
          else
            fR h6 [12] o 19 fun v18 =>
            aI h6 20 v18 x4 fun v19 =>
            fR h6 [12] o 20 fun v20 =>
            aI h6 20 v20 x4 fun v21 =>
            rO h6 [12] o <| cl (f_X12_liesAtMoment o v19 v21 h6) fun v23 h22 =>
            fR h22 [12] o 19 fun v24 =>
            aI h22 20 v24 v15 fun v25 =>
            fR h22 [12] o 20 fun v26 =>
            aI h22 20 v26 v15 fun v27 =>
            rO h22 [12] o <| cl (f_X12_liesAtMoment o v25 v27 h22) fun v29 h28 =>
            jn (fun (x30 : Int32) (h31 : AH) =>
              j124 (x3 + x30) h31) fun j122 =>
            jn (
              j122 (0 : Int32) h28) fun j121 =>
            if v23 < 0 then
              j121
            else
              if v29 < 0 then
                j121
              else
                cl (f_X12_farOf v23 v29 h28) fun v33 h32 =>
                j122 v33 h32) lpN (0 : Int32) (-1 : Int32) ((12 : Int32) * a1) h1
set_option maxRecDepth 100000 in
set_option maxHeartbeats 4000000 in
theorem c_X12_chain (l : Launch) (D : DT) (o : Option Nat) (a1 : Int32) (h : AH) (r : Int32 × AH) (hf : f_X12_chain o a1 h = some r) : CM l D yX12_chain cX12_chain 8 (some .int) 3 66 0 0 [.inr (.inr o), .inl a1] h (some (.int r.1)) r.2 := by
  refine CM.of (by decide) (Nat.le_of_ble_eq_true rfl) (fun X hl C hD hX hnm E => ?_)
  subst hl
  subst hD
  have C : CX X RX12 cX12_chain 8 := C
  show WW X h 0 0 0 [some (rB (xD X).1 o), some (.int a1), none, none, none, none, none, none] []
  unfold f_X12_chain at hf
  refine s_aload_n C dX12_chain_0 rfl ?_
  refine s_iload_n C dX12_chain_1 rfl ?_
  refine s_callV (rvf := fun x => some (.int x)) (st := []) (fr := 2) (lo := 43) (mc := 0) (ms := 0) C [12] wc_X12_isThing wml_X12_524 wim_X12_isThing wsl_12_X12_isThing dX12_chain_2 (As := [.inl a1]) rfl hf (fun x h' hF => c_X12_isThing _ _ _ _ _ (x, h') hF) rfl (Nat.le_of_ble_eq_true rfl) (room_ok hX (Nat.le_of_ble_eq_true rfl) (Nat.le_of_ble_eq_true rfl)) (cell_ok hX (Nat.le_of_ble_eq_true rfl) (Nat.le_of_ble_eq_true rfl)) (fun v2 h1 hf => ?_)
  refine s_if_ne (tgt := 10) C dX12_chain_5 (by decide) hf (fun hf => ?_) (fun hf => ?_)
  · refine s_iconst C dX12_chain_10 (v := (0 : Int32)) (by decide) ?_
    refine s_istore_n C dX12_chain_11 (by decide) (nc_i rfl) (lv' := [some (rB (xD X).1 o), some (.int a1), some (.int (0 : Int32)), none, none, none, none, none]) rfl ?_
    refine s_iconst C dX12_chain_12 (v := (-1 : Int32)) (by decide) ?_
    refine s_istore_n C dX12_chain_13 (by decide) (nc_i rfl) (lv' := [some (rB (xD X).1 o), some (.int a1), some (.int (0 : Int32)), some (.int (-1 : Int32)), none, none, none, none]) rfl ?_
    refine s_bipush C dX12_chain_14 (v := (12 : Int32)) (by decide) ?_
    refine s_iload_n C dX12_chain_16 rfl ?_
    refine s_imul C dX12_chain_17 ?_
    refine s_istore C dX12_chain_18 (by decide) (nc_i rfl) (lv' := [some (rB (xD X).1 o), some (.int a1), some (.int (0 : Int32)), some (.int (-1 : Int32)), some (.int ((12 : Int32) * a1)), none, none, none]) rfl ?_
    refine s_lp4 hf (fun G20 z20 q20 hf => ?_)
    have k20 : ∀ (n : Nat) (x3 : Int32) (x4 : Int32) (x5 : Int32) (h6 : AH), G20 n x3 x4 x5 h6 = some r → WW X h6 0 0 20 [some (rB (xD X).1 o), some (.int a1), some (.int x3), some (.int x4), some (.int x5), none, none, none] [] := by
      intro n
      induction n with
      | zero =>
        intro x3 x4 x5 h6 hf
        rw [z20] at hf
        cases hf
      | succ n ih20 =>
        intro x3 x4 x5 h6 hf
        have hf := (q20 n x3 x4 x5 h6).symm.trans hf
        refine s_iload C dX12_chain_20 rfl ?_
        refine s_bipush C dX12_chain_22 (v := (12 : Int32)) (by decide) ?_
        refine s_iload_n C dX12_chain_24 rfl ?_
        refine s_imul C dX12_chain_25 ?_
        refine s_aload_n C dX12_chain_26 rfl ?_
        refine s_getR C fl_X12_121 dX12_chain_27 hf (fun v7 hf => ?_)
        refine s_iload_n C dX12_chain_30 rfl ?_
        refine s_iaload C dX12_chain_31 hf (fun v8 hf => ?_)
        refine s_iadd C dX12_chain_32 ?_
        refine s_icmp_ge (tgt := 133) C dX12_chain_33 (by decide) hf (fun hf => ?_) (fun hf => ?_)
        · refine s_iload_n C dX12_chain_133 rfl ?_
          exact s_ireturn C E dX12_chain_134 hf (Nat.le_of_ble_eq_true rfl) (Nat.le_of_ble_eq_true rfl)
        · refine s_aload_n C dX12_chain_36 rfl ?_
          refine s_getR C fl_X12_127 dX12_chain_37 hf (fun v9 hf => ?_)
          refine s_iload C dX12_chain_40 rfl ?_
          refine s_zaload C dX12_chain_42 hf (fun v10 hf => ?_)
          refine s_jn hf (fun j127 e127 hf => ?_)
          have k127 : ∀ (x11 : Int32) (x12 : Int32) (h13 : AH), j127 x11 x12 h13 = some r → WW X h13 0 0 127 [some (rB (xD X).1 o), some (.int a1), some (.int x11), some (.int x12), some (.int x5), none, none, none] [] := by
            intro x11 x12 h13 hf
            rw [e127] at hf
            refine s_iinc C dX12_chain_127 (v := (x5 + 1)) rfl rfl (by decide) (nc_i rfl) (lv' := [some (rB (xD X).1 o), some (.int a1), some (.int x11), some (.int x12), some (.int (x5 + 1)), none, none, none]) rfl ?_
            refine s_goto (tgt := 20) C dX12_chain_130 (by decide) ?_
            exact ih20 _ _ _ _ hf
          refine s_if_ne (tgt := 49) C dX12_chain_43 (by decide) hf (fun hf => ?_) (fun hf => ?_)
          · refine s_aload_n C dX12_chain_49 rfl ?_
            refine s_getR C fl_X12_124 dX12_chain_50 hf (fun v14 hf => ?_)
            refine s_iload C dX12_chain_53 rfl ?_
            refine s_saload C dX12_chain_55 hf (fun v15 hf => ?_)
            refine s_istore C dX12_chain_56 (by decide) (nc_i rfl) (lv' := [some (rB (xD X).1 o), some (.int a1), some (.int x3), some (.int x4), some (.int x5), some (.int v15), none, none]) rfl ?_
            refine s_iload_n C dX12_chain_58 rfl ?_
            refine s_jn hf (fun j124 e124 hf => ?_)
            have k124 : ∀ (x16 : Int32) (h17 : AH), j124 x16 h17 = some r → WW X h17 0 0 124 [some (rB (xD X).1 o), some (.int a1), some (.int x16), none, some (.int x5), some (.int v15), none, none] [] := by
              intro x16 h17 hf
              rw [e124] at hf
              refine s_iload C dX12_chain_124 rfl ?_
              refine s_istore_n C dX12_chain_126 (by decide) (nc_i rfl) (lv' := [some (rB (xD X).1 o), some (.int a1), some (.int x16), some (.int v15), some (.int x5), some (.int v15), none, none]) rfl ?_
              refine s_weak (lv' := [some (rB (xD X).1 o), some (.int a1), some (.int x16), some (.int v15), some (.int x5), none, none, none]) ⟨rfl, ⟨rfl, ⟨rfl, ⟨rfl, ⟨rfl, trivial⟩⟩⟩⟩⟩ ?_
              exact k127 _ _ _ hf
            refine s_if_lt (tgt := 124) C dX12_chain_59 (by decide) hf (fun hf => ?_) (fun hf => ?_)
            · refine s_weak (lv' := [some (rB (xD X).1 o), some (.int a1), some (.int x3), none, some (.int x5), some (.int v15), none, none]) ⟨rfl, ⟨rfl, ⟨rfl, ⟨rfl, ⟨rfl, trivial⟩⟩⟩⟩⟩ ?_
              exact k124 _ _ hf
            · refine s_aload_n C dX12_chain_62 rfl ?_
              refine s_aload_n C dX12_chain_63 rfl ?_
              refine s_getR C fl_X12_49 dX12_chain_64 hf (fun v18 hf => ?_)
              refine s_iload_n C dX12_chain_67 rfl ?_
              refine s_iaload C dX12_chain_68 hf (fun v19 hf => ?_)
              refine s_aload_n C dX12_chain_69 rfl ?_
              refine s_getR C fl_X12_52 dX12_chain_70 hf (fun v20 hf => ?_)
              refine s_iload_n C dX12_chain_73 rfl ?_
              refine s_iaload C dX12_chain_74 hf (fun v21 hf => ?_)
              refine s_callV (rvf := fun x => some (.int x)) (st := []) (fr := 2) (lo := 43) (mc := 0) (ms := 0) C [12] wc_X12_liesAtMoment wml_X12_248 wim_X12_liesAtMoment wsl_12_X12_liesAtMoment dX12_chain_75 (As := [.inl v19, .inl v21]) rfl hf (fun x h' hF => c_X12_liesAtMoment _ _ _ _ _ _ (x, h') hF) rfl (Nat.le_of_ble_eq_true rfl) (room_ok hX (Nat.le_of_ble_eq_true rfl) (Nat.le_of_ble_eq_true rfl)) (cell_ok hX (Nat.le_of_ble_eq_true rfl) (Nat.le_of_ble_eq_true rfl)) (fun v23 h22 hf => ?_)
              refine s_istore C dX12_chain_78 (by decide) (nc_i rfl) (lv' := [some (rB (xD X).1 o), some (.int a1), some (.int x3), some (.int x4), some (.int x5), some (.int v15), some (.int v23), none]) rfl ?_
              refine s_aload_n C dX12_chain_80 rfl ?_
              refine s_aload_n C dX12_chain_81 rfl ?_
              refine s_getR C fl_X12_49 dX12_chain_82 hf (fun v24 hf => ?_)
              refine s_iload C dX12_chain_85 rfl ?_
              refine s_iaload C dX12_chain_87 hf (fun v25 hf => ?_)
              refine s_aload_n C dX12_chain_88 rfl ?_
              refine s_getR C fl_X12_52 dX12_chain_89 hf (fun v26 hf => ?_)
              refine s_iload C dX12_chain_92 rfl ?_
              refine s_iaload C dX12_chain_94 hf (fun v27 hf => ?_)
              refine s_callV (rvf := fun x => some (.int x)) (st := []) (fr := 2) (lo := 43) (mc := 0) (ms := 0) C [12] wc_X12_liesAtMoment wml_X12_248 wim_X12_liesAtMoment wsl_12_X12_liesAtMoment dX12_chain_95 (As := [.inl v25, .inl v27]) rfl hf (fun x h' hF => c_X12_liesAtMoment _ _ _ _ _ _ (x, h') hF) rfl (Nat.le_of_ble_eq_true rfl) (room_ok hX (Nat.le_of_ble_eq_true rfl) (Nat.le_of_ble_eq_true rfl)) (cell_ok hX (Nat.le_of_ble_eq_true rfl) (Nat.le_of_ble_eq_true rfl)) (fun v29 h28 hf => ?_)
              refine s_istore C dX12_chain_98 (by decide) (nc_i rfl) (lv' := [some (rB (xD X).1 o), some (.int a1), some (.int x3), some (.int x4), some (.int x5), some (.int v15), some (.int v23), some (.int v29)]) rfl ?_
              refine s_iload_n C dX12_chain_100 rfl ?_
              refine s_iload C dX12_chain_101 rfl ?_
              refine s_jn hf (fun j122 e122 hf => ?_)
              have k122 : ∀ (x30 : Int32) (h31 : AH), j122 x30 h31 = some r → WW X h31 0 0 122 [some (rB (xD X).1 o), some (.int a1), none, none, some (.int x5), some (.int v15), none, none] [.int x30, .int x3] := by
                intro x30 h31 hf
                rw [e122] at hf
                refine s_iadd C dX12_chain_122 ?_
                refine s_istore_n C dX12_chain_123 (by decide) (nc_i rfl) (lv' := [some (rB (xD X).1 o), some (.int a1), some (.int (x3 + x30)), none, some (.int x5), some (.int v15), none, none]) rfl ?_
                exact k124 _ _ hf
              refine s_jn hf (fun j121 e121 hf => ?_)
              have k121 : j121  = some r → WW X h28 0 0 121 [some (rB (xD X).1 o), some (.int a1), none, none, some (.int x5), some (.int v15), none, none] [.int x3] := by
                intro  hf
                rw [e121] at hf
                refine s_iconst C dX12_chain_121 (v := (0 : Int32)) (by decide) ?_
                exact k122 _ _ hf
              refine s_if_lt (tgt := 121) C dX12_chain_103 (by decide) hf (fun hf => ?_) (fun hf => ?_)
              · refine s_weak (lv' := [some (rB (xD X).1 o), some (.int a1), none, none, some (.int x5), some (.int v15), none, none]) ⟨rfl, ⟨rfl, ⟨rfl, ⟨rfl, trivial⟩⟩⟩⟩ ?_
                exact k121 hf
              · refine s_iload C dX12_chain_106 rfl ?_
                refine s_if_lt (tgt := 121) C dX12_chain_108 (by decide) hf (fun hf => ?_) (fun hf => ?_)
                · refine s_weak (lv' := [some (rB (xD X).1 o), some (.int a1), none, none, some (.int x5), some (.int v15), none, none]) ⟨rfl, ⟨rfl, ⟨rfl, ⟨rfl, trivial⟩⟩⟩⟩ ?_
                  exact k121 hf
                · refine s_iload C dX12_chain_111 rfl ?_
                  refine s_iload C dX12_chain_113 rfl ?_
                  refine s_callS (rvf := fun x => some (.int x)) (st := [.int x3]) (fr := 1) (lo := 20) (mc := 0) (ms := 0) C wc_X12_farOf wml_X12_308 wst_X12_farOf dX12_chain_115 (As := [.inl v23, .inl v29]) rfl hf (fun x h' hF => c_X12_farOf _ _ _ _ _ (x, h') hF) rfl (Nat.le_of_ble_eq_true rfl) (room_ok hX (Nat.le_of_ble_eq_true rfl) (Nat.le_of_ble_eq_true rfl)) (cell_ok hX (Nat.le_of_ble_eq_true rfl) (Nat.le_of_ble_eq_true rfl)) (fun v33 h32 hf => ?_)
                  refine s_goto (tgt := 122) C dX12_chain_118 (by decide) ?_
                  refine s_weak (lv' := [some (rB (xD X).1 o), some (.int a1), none, none, some (.int x5), some (.int v15), none, none]) ⟨rfl, ⟨rfl, ⟨rfl, ⟨rfl, trivial⟩⟩⟩⟩ ?_
                  exact k122 _ _ hf
          · refine s_goto (tgt := 127) C dX12_chain_46 (by decide) ?_
            exact k127 _ _ _ hf
    exact k20 lpN _ _ _ _ hf
  · refine s_iconst C dX12_chain_8 (v := (-1 : Int32)) (by decide) ?_
    exact s_ireturn C E dX12_chain_9 hf (Nat.le_of_ble_eq_true rfl) (Nat.le_of_ble_eq_true rfl)
/-- HillBoxesModel.clash(I)I -/
noncomputable def f_X12_clash (o : Option Nat) (a1 : Int32) (h : AH) : Option (Int32 × AH) :=
  fR h [12] o 19 fun v1 =>
  aI h 20 v1 a1 fun v2 =>
  fR h [12] o 20 fun v3 =>
  aI h 20 v3 a1 fun v4 =>
  rO h [12] o <| cl (f_X12_liesAtMoment o v2 v4 h) fun v6 h5 =>
  lp (fun _ _ => none) (fun (L19 : Int32 → AH → Option (Int32 × AH)) (x7 : Int32) (h8 : AH) =>
    fI h8 [12] o 17 fun v9 =>
    if v9 ≤ x7 then
      some ((-1 : Int32), h8)
    else
      jn (fun (h10 : AH) =>
        L19 (x7 + 1) h10) fun j113 =>
      if x7 = a1 then
        j113 h8
      else
        fR h8 [12] o 18 fun v11 =>
        aI h8 20 v11 x7 fun v12 =>
        fR h8 [12] o 18 fun v13 =>
        aI h8 20 v13 a1 fun v14 =>
        if v12 = v14 then
          fR h8 [12] o 21 fun v15 =>
          aI h8 23 v15 x7 fun v16 =>
          if v16 = 0 then
            j113 h8
          else
            fR h8 [12] o 19 fun v17 =>
            aI h8 20 v17 x7 fun v18 =>
            fR h8 [12] o 20 fun v19 =>
            aI h8 20 v19 x7 fun v20 =>
            rO h8 [12] o <| cl (f_X12_liesAtMoment o v18 v20 h8) fun v22 h21 =>
            if v22 < 0 then
              j113 h21
            else
              fR h21 [12] o 20 fun v23 =>
              aI h21 20 v23 x7 fun v24 =>
              fR h21 [12] o 20 fun v25 =>
              aI h21 20 v25 a1 fun v26 =>
              cl (f_X12_sizeOf (v24 - v26) h21) fun v28 h27 =>
              cl (f_X12_farOf v6 v22 h27) fun v30 h29 =>
              nz (2 : Int32) <|
              if ((v30 + (1 : Int32)) / (2 : Int32)) ≤ v28 then
                j113 h29
              else
                some (x7, h29)
        else
          j113 h8) lpN (0 : Int32) h5
set_option maxRecDepth 100000 in
set_option maxHeartbeats 4000000 in
theorem c_X12_clash (l : Launch) (D : DT) (o : Option Nat) (a1 : Int32) (h : AH) (r : Int32 × AH) (hf : f_X12_clash o a1 h = some r) : CM l D yX12_clash cX12_clash 5 (some .int) 3 66 0 0 [.inr (.inr o), .inl a1] h (some (.int r.1)) r.2 := by
  refine CM.of (by decide) (Nat.le_of_ble_eq_true rfl) (fun X hl C hD hX hnm E => ?_)
  subst hl
  subst hD
  have C : CX X RX12 cX12_clash 5 := C
  show WW X h 0 0 0 [some (rB (xD X).1 o), some (.int a1), none, none, none] []
  unfold f_X12_clash at hf
  refine s_aload_n C dX12_clash_0 rfl ?_
  refine s_aload_n C dX12_clash_1 rfl ?_
  refine s_getR C fl_X12_49 dX12_clash_2 hf (fun v1 hf => ?_)
  refine s_iload_n C dX12_clash_5 rfl ?_
  refine s_iaload C dX12_clash_6 hf (fun v2 hf => ?_)
  refine s_aload_n C dX12_clash_7 rfl ?_
  refine s_getR C fl_X12_52 dX12_clash_8 hf (fun v3 hf => ?_)
  refine s_iload_n C dX12_clash_11 rfl ?_
  refine s_iaload C dX12_clash_12 hf (fun v4 hf => ?_)
  refine s_callV (rvf := fun x => some (.int x)) (st := []) (fr := 2) (lo := 43) (mc := 0) (ms := 0) C [12] wc_X12_liesAtMoment wml_X12_248 wim_X12_liesAtMoment wsl_12_X12_liesAtMoment dX12_clash_13 (As := [.inl v2, .inl v4]) rfl hf (fun x h' hF => c_X12_liesAtMoment _ _ _ _ _ _ (x, h') hF) rfl (Nat.le_of_ble_eq_true rfl) (room_ok hX (Nat.le_of_ble_eq_true rfl) (Nat.le_of_ble_eq_true rfl)) (cell_ok hX (Nat.le_of_ble_eq_true rfl) (Nat.le_of_ble_eq_true rfl)) (fun v6 h5 hf => ?_)
  refine s_istore_n C dX12_clash_16 (by decide) (nc_i rfl) (lv' := [some (rB (xD X).1 o), some (.int a1), some (.int v6), none, none]) rfl ?_
  refine s_iconst C dX12_clash_17 (v := (0 : Int32)) (by decide) ?_
  refine s_istore_n C dX12_clash_18 (by decide) (nc_i rfl) (lv' := [some (rB (xD X).1 o), some (.int a1), some (.int v6), some (.int (0 : Int32)), none]) rfl ?_
  refine s_lp2 hf (fun G19 z19 q19 hf => ?_)
  have k19 : ∀ (n : Nat) (x7 : Int32) (h8 : AH), G19 n x7 h8 = some r → WW X h8 0 0 19 [some (rB (xD X).1 o), some (.int a1), some (.int v6), some (.int x7), none] [] := by
    intro n
    induction n with
    | zero =>
      intro x7 h8 hf
      rw [z19] at hf
      cases hf
    | succ n ih19 =>
      intro x7 h8 hf
      have hf := (q19 n x7 h8).symm.trans hf
      refine s_iload_n C dX12_clash_19 rfl ?_
      refine s_aload_n C dX12_clash_20 rfl ?_
      refine s_getI C fl_X12_252 dX12_clash_21 hf (fun v9 hf => ?_)
      refine s_icmp_ge (tgt := 119) C dX12_clash_24 (by decide) hf (fun hf => ?_) (fun hf => ?_)
      · refine s_iconst C dX12_clash_119 (v := (-1 : Int32)) (by decide) ?_
        exact s_ireturn C E dX12_clash_120 hf (Nat.le_of_ble_eq_true rfl) (Nat.le_of_ble_eq_true rfl)
      · refine s_iload_n C dX12_clash_27 rfl ?_
        refine s_iload_n C dX12_clash_28 rfl ?_
        refine s_jn hf (fun j113 e113 hf => ?_)
        have k113 : ∀ (h10 : AH), j113 h10 = some r → WW X h10 0 0 113 [some (rB (xD X).1 o), some (.int a1), some (.int v6), some (.int x7), none] [] := by
          intro h10 hf
          rw [e113] at hf
          refine s_iinc C dX12_clash_113 (v := (x7 + 1)) rfl rfl (by decide) (nc_i rfl) (lv' := [some (rB (xD X).1 o), some (.int a1), some (.int v6), some (.int (x7 + 1)), none]) rfl ?_
          refine s_goto (tgt := 19) C dX12_clash_116 (by decide) ?_
          exact ih19 _ _ hf
        refine s_icmp_eq (tgt := 113) C dX12_clash_29 (by decide) hf (fun hf => ?_) (fun hf => ?_)
        · exact k113 _ hf
        · refine s_aload_n C dX12_clash_32 rfl ?_
          refine s_getR C fl_X12_46 dX12_clash_33 hf (fun v11 hf => ?_)
          refine s_iload_n C dX12_clash_36 rfl ?_
          refine s_iaload C dX12_clash_37 hf (fun v12 hf => ?_)
          refine s_aload_n C dX12_clash_38 rfl ?_
          refine s_getR C fl_X12_46 dX12_clash_39 hf (fun v13 hf => ?_)
          refine s_iload_n C dX12_clash_42 rfl ?_
          refine s_iaload C dX12_clash_43 hf (fun v14 hf => ?_)
          refine s_icmp_ne (tgt := 113) C dX12_clash_44 (by decide) hf (fun hf => ?_) (fun hf => ?_)
          · exact k113 _ hf
          · refine s_aload_n C dX12_clash_47 rfl ?_
            refine s_getR C fl_X12_55 dX12_clash_48 hf (fun v15 hf => ?_)
            refine s_iload_n C dX12_clash_51 rfl ?_
            refine s_zaload C dX12_clash_52 hf (fun v16 hf => ?_)
            refine s_if_ne (tgt := 59) C dX12_clash_53 (by decide) hf (fun hf => ?_) (fun hf => ?_)
            · refine s_aload_n C dX12_clash_59 rfl ?_
              refine s_aload_n C dX12_clash_60 rfl ?_
              refine s_getR C fl_X12_49 dX12_clash_61 hf (fun v17 hf => ?_)
              refine s_iload_n C dX12_clash_64 rfl ?_
              refine s_iaload C dX12_clash_65 hf (fun v18 hf => ?_)
              refine s_aload_n C dX12_clash_66 rfl ?_
              refine s_getR C fl_X12_52 dX12_clash_67 hf (fun v19 hf => ?_)
              refine s_iload_n C dX12_clash_70 rfl ?_
              refine s_iaload C dX12_clash_71 hf (fun v20 hf => ?_)
              refine s_callV (rvf := fun x => some (.int x)) (st := []) (fr := 2) (lo := 43) (mc := 0) (ms := 0) C [12] wc_X12_liesAtMoment wml_X12_248 wim_X12_liesAtMoment wsl_12_X12_liesAtMoment dX12_clash_72 (As := [.inl v18, .inl v20]) rfl hf (fun x h' hF => c_X12_liesAtMoment _ _ _ _ _ _ (x, h') hF) rfl (Nat.le_of_ble_eq_true rfl) (room_ok hX (Nat.le_of_ble_eq_true rfl) (Nat.le_of_ble_eq_true rfl)) (cell_ok hX (Nat.le_of_ble_eq_true rfl) (Nat.le_of_ble_eq_true rfl)) (fun v22 h21 hf => ?_)
              refine s_istore C dX12_clash_75 (by decide) (nc_i rfl) (lv' := [some (rB (xD X).1 o), some (.int a1), some (.int v6), some (.int x7), some (.int v22)]) rfl ?_
              refine s_iload C dX12_clash_77 rfl ?_
              refine s_if_lt (tgt := 113) C dX12_clash_79 (by decide) hf (fun hf => ?_) (fun hf => ?_)
              · refine s_weak (lv' := [some (rB (xD X).1 o), some (.int a1), some (.int v6), some (.int x7), none]) ⟨rfl, ⟨rfl, ⟨rfl, ⟨rfl, trivial⟩⟩⟩⟩ ?_
                exact k113 _ hf
              · refine s_aload_n C dX12_clash_82 rfl ?_
                refine s_getR C fl_X12_52 dX12_clash_83 hf (fun v23 hf => ?_)
                refine s_iload_n C dX12_clash_86 rfl ?_
                refine s_iaload C dX12_clash_87 hf (fun v24 hf => ?_)
                refine s_aload_n C dX12_clash_88 rfl ?_
                refine s_getR C fl_X12_52 dX12_clash_89 hf (fun v25 hf => ?_)
                refine s_iload_n C dX12_clash_92 rfl ?_
                refine s_iaload C dX12_clash_93 hf (fun v26 hf => ?_)
                refine s_isub C dX12_clash_94 ?_
                refine s_callS (rvf := fun x => some (.int x)) (st := []) (fr := 0) (lo := 0) (mc := 0) (ms := 0) C wc_X12_sizeOf wml_X12_199 wst_X12_sizeOf dX12_clash_95 (As := [.inl (v24 - v26)]) rfl hf (fun x h' hF => c_X12_sizeOf _ _ _ _ (x, h') hF) rfl (Nat.le_of_ble_eq_true rfl) (room_ok hX (Nat.le_of_ble_eq_true rfl) (Nat.le_of_ble_eq_true rfl)) (cell_ok hX (Nat.le_of_ble_eq_true rfl) (Nat.le_of_ble_eq_true rfl)) (fun v28 h27 hf => ?_)
                refine s_iload_n C dX12_clash_98 rfl ?_
                refine s_iload C dX12_clash_99 rfl ?_
                refine s_callS (rvf := fun x => some (.int x)) (st := [.int v28]) (fr := 1) (lo := 20) (mc := 0) (ms := 0) C wc_X12_farOf wml_X12_308 wst_X12_farOf dX12_clash_101 (As := [.inl v6, .inl v22]) rfl hf (fun x h' hF => c_X12_farOf _ _ _ _ _ (x, h') hF) rfl (Nat.le_of_ble_eq_true rfl) (room_ok hX (Nat.le_of_ble_eq_true rfl) (Nat.le_of_ble_eq_true rfl)) (cell_ok hX (Nat.le_of_ble_eq_true rfl) (Nat.le_of_ble_eq_true rfl)) (fun v30 h29 hf => ?_)
                refine s_iconst C dX12_clash_104 (v := (1 : Int32)) (by decide) ?_
                refine s_iadd C dX12_clash_105 ?_
                refine s_iconst C dX12_clash_106 (v := (2 : Int32)) (by decide) ?_
                refine s_idiv C dX12_clash_107 hf (fun hf => ?_)
                refine s_icmp_ge (tgt := 113) C dX12_clash_108 (by decide) hf (fun hf => ?_) (fun hf => ?_)
                · refine s_weak (lv' := [some (rB (xD X).1 o), some (.int a1), some (.int v6), some (.int x7), none]) ⟨rfl, ⟨rfl, ⟨rfl, ⟨rfl, trivial⟩⟩⟩⟩ ?_
                  exact k113 _ hf
                · refine s_iload_n C dX12_clash_111 rfl ?_
                  exact s_ireturn C E dX12_clash_112 hf (Nat.le_of_ble_eq_true rfl) (Nat.le_of_ble_eq_true rfl)
            · refine s_goto (tgt := 113) C dX12_clash_56 (by decide) ?_
              exact k113 _ hf
  exact k19 lpN _ _ hf
/-- HillBoxesModel.isOnPaper(II)Z -/
noncomputable def f_X12_isOnPaper (o : Option Nat) (a1 : Int32) (a2 : Int32) (h : AH) : Option (Int32 × AH) :=
  lp (fun _ => none) (fun (L2 : Int32 → Option (Int32 × AH)) (x1 : Int32) =>
    fR h [12] o 22 fun v2 =>
    aI h 20 v2 a2 fun v3 =>
    if v3 ≤ x1 then
      rz (0 : Int32) h
    else
      fR h [12] o 23 fun v4 =>
      aI h 21 v4 (((40 : Int32) * a2) + x1) fun v5 =>
      if v5 = a1 then
        rz (1 : Int32) h
      else
        L2 (x1 + 1)) lpN (0 : Int32)
set_option maxRecDepth 100000 in
set_option maxHeartbeats 4000000 in
theorem c_X12_isOnPaper (l : Launch) (D : DT) (o : Option Nat) (a1 : Int32) (a2 : Int32) (h : AH) (r : Int32 × AH) (hf : f_X12_isOnPaper o a1 a2 h = some r) : CM l D yX12_isOnPaper cX12_isOnPaper 4 (some .boolean) 0 0 0 0 [.inr (.inr o), .inl a1, .inl a2] h (some (.int r.1)) r.2 := by
  refine CM.of (by decide) (Nat.le_of_ble_eq_true rfl) (fun X hl C hD hX hnm E => ?_)
  subst hl
  subst hD
  have C : CX X RX12 cX12_isOnPaper 4 := C
  show WW X h 0 0 0 [some (rB (xD X).1 o), some (.int a1), some (.int a2), none] []
  unfold f_X12_isOnPaper at hf
  refine s_iconst C dX12_isOnPaper_0 (v := (0 : Int32)) (by decide) ?_
  refine s_istore_n C dX12_isOnPaper_1 (by decide) (nc_i rfl) (lv' := [some (rB (xD X).1 o), some (.int a1), some (.int a2), some (.int (0 : Int32))]) rfl ?_
  refine s_lp1 hf (fun G2 z2 q2 hf => ?_)
  have k2 : ∀ (n : Nat) (x1 : Int32), G2 n x1 = some r → WW X h 0 0 2 [some (rB (xD X).1 o), some (.int a1), some (.int a2), some (.int x1)] [] := by
    intro n
    induction n with
    | zero =>
      intro x1 hf
      rw [z2] at hf
      cases hf
    | succ n ih2 =>
      intro x1 hf
      have hf := (q2 n x1).symm.trans hf
      refine s_iload_n C dX12_isOnPaper_2 rfl ?_
      refine s_aload_n C dX12_isOnPaper_3 rfl ?_
      refine s_getR C fl_X12_59 dX12_isOnPaper_4 hf (fun v2 hf => ?_)
      refine s_iload_n C dX12_isOnPaper_7 rfl ?_
      refine s_iaload C dX12_isOnPaper_8 hf (fun v3 hf => ?_)
      refine s_icmp_ge (tgt := 35) C dX12_isOnPaper_9 (by decide) hf (fun hf => ?_) (fun hf => ?_)
      · refine s_iconst C dX12_isOnPaper_35 (v := (0 : Int32)) (by decide) ?_
        exact s_zreturn C E dX12_isOnPaper_36 hf (Nat.le_of_ble_eq_true rfl) (Nat.le_of_ble_eq_true rfl)
      · refine s_aload_n C dX12_isOnPaper_12 rfl ?_
        refine s_getR C fl_X12_62 dX12_isOnPaper_13 hf (fun v4 hf => ?_)
        refine s_bipush C dX12_isOnPaper_16 (v := (40 : Int32)) (by decide) ?_
        refine s_iload_n C dX12_isOnPaper_18 rfl ?_
        refine s_imul C dX12_isOnPaper_19 ?_
        refine s_iload_n C dX12_isOnPaper_20 rfl ?_
        refine s_iadd C dX12_isOnPaper_21 ?_
        refine s_saload C dX12_isOnPaper_22 hf (fun v5 hf => ?_)
        refine s_iload_n C dX12_isOnPaper_23 rfl ?_
        refine s_icmp_ne (tgt := 29) C dX12_isOnPaper_24 (by decide) hf (fun hf => ?_) (fun hf => ?_)
        · refine s_iinc C dX12_isOnPaper_29 (v := (x1 + 1)) rfl rfl (by decide) (nc_i rfl) (lv' := [some (rB (xD X).1 o), some (.int a1), some (.int a2), some (.int (x1 + 1))]) rfl ?_
          refine s_goto (tgt := 2) C dX12_isOnPaper_32 (by decide) ?_
          exact ih2 _ hf
        · refine s_iconst C dX12_isOnPaper_27 (v := (1 : Int32)) (by decide) ?_
          exact s_zreturn C E dX12_isOnPaper_28 hf (Nat.le_of_ble_eq_true rfl) (Nat.le_of_ble_eq_true rfl)
  exact k2 lpN _ hf
