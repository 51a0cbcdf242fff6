/-- HillBoxesModel.isBehind(II)Z -/
noncomputable def f_X12_isBehind (o : Option Nat) (a1 : Int32) (a2 : Int32) (h : AH) : Option (Int32 × AH) :=
  fR h [12] o 20 fun v1 =>
  aI h 20 v1 a1 fun v2 =>
  fR h [12] o 20 fun v3 =>
  aI h 20 v3 a2 fun v4 =>
  jn (fun (x5 : Int32) =>
    rz x5 h) fun j48 =>
  if v2 = v4 then
    if a1 ≤ a2 then
      j48 (0 : Int32)
    else
      j48 (1 : Int32)
  else
    fR h [12] o 20 fun v6 =>
    aI h 20 v6 a1 fun v7 =>
    fR h [12] o 20 fun v8 =>
    aI h 20 v8 a2 fun v9 =>
    if v7 ≤ v9 then
      j48 (0 : Int32)
    else
      j48 (1 : Int32)
set_option maxRecDepth 100000 in
set_option maxHeartbeats 4000000 in
theorem c_X12_isBehind (l : Launch) (D : DT) (o : Option Nat) (a1 : Int32) (a2 : Int32) (h : AH) (r : Int32 × AH) (hf : f_X12_isBehind o a1 a2 h = some r) : CM l D yX12_isBehind cX12_isBehind 3 (some .boolean) 0 0 0 0 [.inr (.inr o), .inl a1, .inl a2] h (some (.int r.1)) r.2 := by
  refine CM.of (by decide) (Nat.le_of_ble_eq_true rfl) (fun X hl C hD hX hnm E => ?_)
  subst hl
  subst hD
  have C : CX X RX12 cX12_isBehind 3 := C
  show WW X h 0 0 0 [some (rB (xD X).1 o), some (.int a1), some (.int a2)] []
  unfold f_X12_isBehind at hf
  refine s_aload_n C dX12_isBehind_0 rfl ?_
  refine s_getR C fl_X12_52 dX12_isBehind_1 hf (fun v1 hf => ?_)
  refine s_iload_n C dX12_isBehind_4 rfl ?_
  refine s_iaload C dX12_isBehind_5 hf (fun v2 hf => ?_)
  refine s_aload_n C dX12_isBehind_6 rfl ?_
  refine s_getR C fl_X12_52 dX12_isBehind_7 hf (fun v3 hf => ?_)
  refine s_iload_n C dX12_isBehind_10 rfl ?_
  refine s_iaload C dX12_isBehind_11 hf (fun v4 hf => ?_)
  refine s_jn hf (fun j48 e48 hf => ?_)
  have k48 : ∀ (x5 : Int32), j48 x5 = some r → WW X h 0 0 48 [none, none, none] [.int x5] := by
    intro x5 hf
    rw [e48] at hf
    exact s_zreturn C E dX12_isBehind_48 hf (Nat.le_of_ble_eq_true rfl) (Nat.le_of_ble_eq_true rfl)
  refine s_icmp_eq (tgt := 38) C dX12_isBehind_12 (by decide) hf (fun hf => ?_) (fun hf => ?_)
  · refine s_iload_n C dX12_isBehind_38 rfl ?_
    refine s_iload_n C dX12_isBehind_39 rfl ?_
    refine s_icmp_le (tgt := 47) C dX12_isBehind_40 (by decide) hf (fun hf => ?_) (fun hf => ?_)
    · refine s_iconst C dX12_isBehind_47 (v := (0 : Int32)) (by decide) ?_
      refine s_weak (lv' := [none, none, none]) trivial ?_
      exact k48 _ hf
    · refine s_iconst C dX12_isBehind_43 (v := (1 : Int32)) (by decide) ?_
      refine s_goto (tgt := 48) C dX12_isBehind_44 (by decide) ?_
      refine s_weak (lv' := [none, none, none]) trivial ?_
      exact k48 _ hf
  · refine s_aload_n C dX12_isBehind_15 rfl ?_
    refine s_getR C fl_X12_52 dX12_isBehind_16 hf (fun v6 hf => ?_)
    refine s_iload_n C dX12_isBehind_19 rfl ?_
    refine s_iaload C dX12_isBehind_20 hf (fun v7 hf => ?_)
    refine s_aload_n C dX12_isBehind_21 rfl ?_
    refine s_getR C fl_X12_52 dX12_isBehind_22 hf (fun v8 hf => ?_)
    refine s_iload_n C dX12_isBehind_25 rfl ?_
    refine s_iaload C dX12_isBehind_26 hf (fun v9 hf => ?_)
    refine s_icmp_le (tgt := 34) C dX12_isBehind_27 (by decide) hf (fun hf => ?_) (fun hf => ?_)
    · refine s_iconst C dX12_isBehind_34 (v := (0 : Int32)) (by decide) ?_
      refine s_goto (tgt := 48) C dX12_isBehind_35 (by decide) ?_
      refine s_weak (lv' := [none, none, none]) trivial ?_
      exact k48 _ hf
    · refine s_iconst C dX12_isBehind_30 (v := (1 : Int32)) (by decide) ?_
      refine s_goto (tgt := 48) C dX12_isBehind_31 (by decide) ?_
      refine s_weak (lv' := [none, none, none]) trivial ?_
      exact k48 _ hf
/-- HillBoxesModel.nextLog(IZ)I -/
noncomputable def f_X12_nextLog (o : Option Nat) (a1 : Int32) (a2 : Int32) (h : AH) : Option (Int32 × AH) :=
  lp (fun _ _ _ => none) (fun (L5 : Int32 → Int32 → AH → Option (Int32 × AH)) (x1 : Int32) (x2 : Int32) (h3 : AH) =>
    fI h3 [12] o 17 fun v4 =>
    if v4 ≤ x2 then
      some (x1, h3)
    else
      jn (fun (x5 : Int32) (h6 : AH) =>
        L5 x5 (x2 + 1) h6) fun j68 =>
      if x2 = a1 then
        j68 x1 h3
      else
        fR h3 [12] o 19 fun v7 =>
        aI h3 20 v7 x2 fun v8 =>
        fR h3 [12] o 19 fun v9 =>
        aI h3 20 v9 a1 fun v10 =>
        if v8 = v10 then
          rO h3 [12] o <| cl (f_X12_isBehind o x2 a1 h3) fun v12 h11 =>
          if v12 = a2 then
            jn (fun (h13 : AH) =>
              j68 x2 h13) fun j65 =>
            if x1 < 0 then
              j65 h11
            else
              rO h11 [12] o <| cl (f_X12_isBehind o x1 x2 h11) fun v15 h14 =>
              if v15 = a2 then
                j65 h14
              else
                j68 x1 h14
          else
            j68 x1 h11
        else
          j68 x1 h3) lpN (-1 : Int32) (0 : Int32) h
set_option maxRecDepth 100000 in
set_option maxHeartbeats 4000000 in
theorem c_X12_nextLog (l : Launch) (D : DT) (o : Option Nat) (a1 : Int32) (a2 : Int32) (h : AH) (r : Int32 × AH) (hf : f_X12_nextLog o a1 a2 h = some r) : CM l D yX12_nextLog cX12_nextLog 5 (some .int) 1 22 0 0 [.inr (.inr o), .inl a1, .inl a2] h (some (.int r.1)) r.2 := by
  refine CM.of (by decide) (Nat.le_of_ble_eq_true rfl) (fun X hl C hD hX hnm E => ?_)
  subst hl
  subst hD
  have C : CX X RX12 cX12_nextLog 5 := C
  show WW X h 0 0 0 [some (rB (xD X).1 o), some (.int a1), some (.int a2), none, none] []
  unfold f_X12_nextLog at hf
  refine s_iconst C dX12_nextLog_0 (v := (-1 : Int32)) (by decide) ?_
  refine s_istore_n C dX12_nextLog_1 (by decide) (nc_i rfl) (lv' := [some (rB (xD X).1 o), some (.int a1), some (.int a2), some (.int (-1 : Int32)), none]) rfl ?_
  refine s_iconst C dX12_nextLog_2 (v := (0 : Int32)) (by decide) ?_
  refine s_istore C dX12_nextLog_3 (by decide) (nc_i rfl) (lv' := [some (rB (xD X).1 o), some (.int a1), some (.int a2), some (.int (-1 : Int32)), some (.int (0 : Int32))]) rfl ?_
  refine s_lp3 hf (fun G5 z5 q5 hf => ?_)
  have k5 : ∀ (n : Nat) (x1 : Int32) (x2 : Int32) (h3 : AH), G5 n x1 x2 h3 = some r → WW X h3 0 0 5 [some (rB (xD X).1 o), some (.int a1), some (.int a2), some (.int x1), some (.int x2)] [] := by
    intro n
    induction n with
    | zero =>
      intro x1 x2 h3 hf
      rw [z5] at hf
      cases hf
    | succ n ih5 =>
      intro x1 x2 h3 hf
      have hf := (q5 n x1 x2 h3).symm.trans hf
      refine s_iload C dX12_nextLog_5 rfl ?_
      refine s_aload_n C dX12_nextLog_7 rfl ?_
      refine s_getI C fl_X12_252 dX12_nextLog_8 hf (fun v4 hf => ?_)
      refine s_icmp_ge (tgt := 74) C dX12_nextLog_11 (by decide) hf (fun hf => ?_) (fun hf => ?_)
      · refine s_iload_n C dX12_nextLog_74 rfl ?_
        exact s_ireturn C E dX12_nextLog_75 hf (Nat.le_of_ble_eq_true rfl) (Nat.le_of_ble_eq_true rfl)
      · refine s_iload C dX12_nextLog_14 rfl ?_
        refine s_iload_n C dX12_nextLog_16 rfl ?_
        refine s_jn hf (fun j68 e68 hf => ?_)
        have k68 : ∀ (x5 : Int32) (h6 : AH), j68 x5 h6 = some r → WW X h6 0 0 68 [some (rB (xD X).1 o), some (.int a1), some (.int a2), some (.int x5), some (.int x2)] [] := by
          intro x5 h6 hf
          rw [e68] at hf
          refine s_iinc C dX12_nextLog_68 (v := (x2 + 1)) rfl rfl (by decide) (nc_i rfl) (lv' := [some (rB (xD X).1 o), some (.int a1), some (.int a2), some (.int x5), some (.int (x2 + 1))]) rfl ?_
          refine s_goto (tgt := 5) C dX12_nextLog_71 (by decide) ?_
          exact ih5 _ _ _ hf
        refine s_icmp_eq (tgt := 68) C dX12_nextLog_17 (by decide) hf (fun hf => ?_) (fun hf => ?_)
        · exact k68 _ _ hf
        · refine s_aload_n C dX12_nextLog_20 rfl ?_
          refine s_getR C fl_X12_49 dX12_nextLog_21 hf (fun v7 hf => ?_)
          refine s_iload C dX12_nextLog_24 rfl ?_
          refine s_iaload C dX12_nextLog_26 hf (fun v8 hf => ?_)
          refine s_aload_n C dX12_nextLog_27 rfl ?_
          refine s_getR C fl_X12_49 dX12_nextLog_28 hf (fun v9 hf => ?_)
          refine s_iload_n C dX12_nextLog_31 rfl ?_
          refine s_iaload C dX12_nextLog_32 hf (fun v10 hf => ?_)
          refine s_icmp_ne (tgt := 68) C dX12_nextLog_33 (by decide) hf (fun hf => ?_) (fun hf => ?_)
          · exact k68 _ _ hf
          · refine s_aload_n C dX12_nextLog_36 rfl ?_
            refine s_iload C dX12_nextLog_37 rfl ?_
            refine s_iload_n C dX12_nextLog_39 rfl ?_
            refine s_callV (rvf := fun x => some (.int x)) (st := []) (fr := 0) (lo := 0) (mc := 0) (ms := 0) C [12] wc_X12_isBehind wml_X12_270 wim_X12_isBehind wsl_12_X12_isBehind dX12_nextLog_40 (As := [.inl x2, .inl a1]) rfl hf (fun x h' hF => c_X12_isBehind _ _ _ _ _ _ (x, h') hF) rfl (Nat.le_of_ble_eq_true rfl) (room_ok hX (Nat.le_of_ble_eq_true rfl) (Nat.le_of_ble_eq_true rfl)) (cell_ok hX (Nat.le_of_ble_eq_true rfl) (Nat.le_of_ble_eq_true rfl)) (fun v12 h11 hf => ?_)
            refine s_iload_n C dX12_nextLog_43 rfl ?_
            refine s_icmp_eq (tgt := 50) C dX12_nextLog_44 (by decide) hf (fun hf => ?_) (fun hf => ?_)
            · refine s_iload_n C dX12_nextLog_50 rfl ?_
              refine s_jn hf (fun j65 e65 hf => ?_)
              have k65 : ∀ (h13 : AH), j65 h13 = some r → WW X h13 0 0 65 [some (rB (xD X).1 o), some (.int a1), some (.int a2), none, some (.int x2)] [] := by
                intro h13 hf
                rw [e65] at hf
                refine s_iload C dX12_nextLog_65 rfl ?_
                refine s_istore_n C dX12_nextLog_67 (by decide) (nc_i rfl) (lv' := [some (rB (xD X).1 o), some (.int a1), some (.int a2), some (.int x2), some (.int x2)]) rfl ?_
                exact k68 _ _ hf
              refine s_if_lt (tgt := 65) C dX12_nextLog_51 (by decide) hf (fun hf => ?_) (fun hf => ?_)
              · refine s_weak (lv' := [some (rB (xD X).1 o), some (.int a1), some (.int a2), none, some (.int x2)]) ⟨rfl, ⟨rfl, ⟨rfl, ⟨rfl, trivial⟩⟩⟩⟩ ?_
                exact k65 _ hf
              · refine s_aload_n C dX12_nextLog_54 rfl ?_
                refine s_iload_n C dX12_nextLog_55 rfl ?_
                refine s_iload C dX12_nextLog_56 rfl ?_
                refine s_callV (rvf := fun x => some (.int x)) (st := []) (fr := 0) (lo := 0) (mc := 0) (ms := 0) C [12] wc_X12_isBehind wml_X12_270 wim_X12_isBehind wsl_12_X12_isBehind dX12_nextLog_58 (As := [.inl x1, .inl x2]) rfl hf (fun x h' hF => c_X12_isBehind _ _ _ _ _ _ (x, h') hF) rfl (Nat.le_of_ble_eq_true rfl) (room_ok hX (Nat.le_of_ble_eq_true rfl) (Nat.le_of_ble_eq_true rfl)) (cell_ok hX (Nat.le_of_ble_eq_true rfl) (Nat.le_of_ble_eq_true rfl)) (fun v15 h14 hf => ?_)
                refine s_iload_n C dX12_nextLog_61 rfl ?_
                refine s_icmp_ne (tgt := 68) C dX12_nextLog_62 (by decide) hf (fun hf => ?_) (fun hf => ?_)
                · exact k68 _ _ hf
                · refine s_weak (lv' := [some (rB (xD X).1 o), some (.int a1), some (.int a2), none, some (.int x2)]) ⟨rfl, ⟨rfl, ⟨rfl, ⟨rfl, trivial⟩⟩⟩⟩ ?_
                  exact k65 _ hf
            · refine s_goto (tgt := 68) C dX12_nextLog_47 (by decide) ?_
              exact k68 _ _ hf
  exact k5 lpN _ _ _ hf
/-- HillBoxesModel.falseOf(I)I -/
noncomputable def f_X12_falseOf (o : Option Nat) (a1 : Int32) (h : AH) : Option (Int32 × AH) :=
  fR h [12] o 21 fun v1 =>
  aI h 23 v1 a1 fun v2 =>
  if v2 = 0 then
    some ((0 : Int32), h)
  else
    fR h [12] o 19 fun v3 =>
    aI h 20 v3 a1 fun v4 =>
    fR h [12] o 20 fun v5 =>
    aI h 20 v5 a1 fun v6 =>
    rO h [12] o <| cl (f_X12_liesAtMoment o v4 v6 h) fun v8 h7 =>
    if 0 ≤ v8 then
      rO h7 [12] o <| cl (f_X12_clash o a1 h7) fun v10 h9 =>
      if v10 < 0 then
        fR h9 [12] o 19 fun v11 =>
        aI h9 20 v11 a1 fun v12 =>
        fR h9 [12] o 4 fun v13 =>
        aI h9 20 v13 v12 fun v14 =>
        jn (fun (h15 : AH) =>
          rO h15 [12] o <| cl (f_X12_nextLog o a1 (0 : Int32) h15) fun v17 h16 =>
          rO h16 [12] o <| cl (f_X12_nextLog o a1 (1 : Int32) h16) fun v19 h18 =>
          fR h18 [12] o 22 fun v20 =>
          aI h18 20 v20 v12 fun v21 =>
          jn (fun (x22 : Int32) (h23 : AH) =>
            some (x22, h23)) fun j151 =>
          jn (fun (h24 : AH) =>
            j151 (0 : Int32) h24) fun j150 =>
          if v21 < 0 then
            j150 h18
          else
            fR h18 [12] o 18 fun v25 =>
            aI h18 20 v25 a1 fun v26 =>
            rO h18 [12] o <| cl (f_X12_isOnPaper o v26 v12 h18) fun v28 h27 =>
            if v28 = 0 then
              if v17 < 0 then
                j150 h27
              else
                if v19 < 0 then
                  j150 h27
                else
                  fR h27 [12] o 21 fun v29 =>
                  aI h27 23 v29 v17 fun v30 =>
                  if v30 = 0 then
                    fR h27 [12] o 21 fun v31 =>
                    aI h27 23 v31 v19 fun v32 =>
                    if v32 = 0 then
                      j151 (4 : Int32) h27
                    else
                      j150 h27
                  else
                    j150 h27
            else
              j150 h27) fun j80 =>
        if v14 = (5 : Int32) then
          fR h9 [12] o 20 fun v33 =>
          aI h9 20 v33 a1 fun v34 =>
          nz (24 : Int32) <|
          cl (f_X12_in (v34 - v34 / (24 : Int32) * (24 : Int32)) (6 : Int32) (19 : Int32) h9) fun v36 h35 =>
          if v36 = 0 then
            j80 h35
          else
            some ((3 : Int32), h35)
        else
          j80 h9
      else
        some ((2 : Int32), h9)
    else
      some ((1 : Int32), h7)
set_option maxRecDepth 100000 in
set_option maxHeartbeats 4000000 in
theorem c_X12_falseOf (l : Launch) (D : DT) (o : Option Nat) (a1 : Int32) (h : AH) (r : Int32 × AH) (hf : f_X12_falseOf o a1 h = some r) : CM l D yX12_falseOf cX12_falseOf 5 (some .int) 4 90 0 0 [.inr (.inr o), .inl a1] h (some (.int r.1)) r.2 := by
  refine CM.of (by decide) (Nat.le_of_ble_eq_true rfl) (fun X hl C hD hX hnm E => ?_)
  subst hl
  subst hD
  have C : CX X RX12 cX12_falseOf 5 := C
  show WW X h 0 0 0 [some (rB (xD X).1 o), some (.int a1), none, none, none] []
  unfold f_X12_falseOf at hf
  refine s_aload_n C dX12_falseOf_0 rfl ?_
  refine s_getR C fl_X12_55 dX12_falseOf_1 hf (fun v1 hf => ?_)
  refine s_iload_n C dX12_falseOf_4 rfl ?_
  refine s_zaload C dX12_falseOf_5 hf (fun v2 hf => ?_)
  refine s_if_ne (tgt := 11) C dX12_falseOf_6 (by decide) hf (fun hf => ?_) (fun hf => ?_)
  · refine s_aload_n C dX12_falseOf_11 rfl ?_
    refine s_aload_n C dX12_falseOf_12 rfl ?_
    refine s_getR C fl_X12_49 dX12_falseOf_13 hf (fun v3 hf => ?_)
    refine s_iload_n C dX12_falseOf_16 rfl ?_
    refine s_iaload C dX12_falseOf_17 hf (fun v4 hf => ?_)
    refine s_aload_n C dX12_falseOf_18 rfl ?_
    refine s_getR C fl_X12_52 dX12_falseOf_19 hf (fun v5 hf => ?_)
    refine s_iload_n C dX12_falseOf_22 rfl ?_
    refine s_iaload C dX12_falseOf_23 hf (fun v6 hf => ?_)
    refine s_callV (rvf := fun x => some (.int x)) (st := []) (fr := 2) (lo := 43) (mc := 0) (ms := 0) C [12] wc_X12_liesAtMoment wml_X12_248 wim_X12_liesAtMoment wsl_12_X12_liesAtMoment dX12_falseOf_24 (As := [.inl v4, .inl v6]) rfl hf (fun x h' hF => c_X12_liesAtMoment _ _ _ _ _ _ (x, h') hF) rfl (Nat.le_of_ble_eq_true rfl) (room_ok hX (Nat.le_of_ble_eq_true rfl) (Nat.le_of_ble_eq_true rfl)) (cell_ok hX (Nat.le_of_ble_eq_true rfl) (Nat.le_of_ble_eq_true rfl)) (fun v8 h7 hf => ?_)
    refine s_if_ge (tgt := 32) C dX12_falseOf_27 (by decide) hf (fun hf => ?_) (fun hf => ?_)
    · refine s_aload_n C dX12_falseOf_32 rfl ?_
      refine s_iload_n C dX12_falseOf_33 rfl ?_
      refine s_callV (rvf := fun x => some (.int x)) (st := []) (fr := 3) (lo := 66) (mc := 0) (ms := 0) C [12] wc_X12_clash wml_X12_311 wim_X12_clash wsl_12_X12_clash dX12_falseOf_34 (As := [.inl a1]) rfl hf (fun x h' hF => c_X12_clash _ _ _ _ _ (x, h') hF) rfl (Nat.le_of_ble_eq_true rfl) (room_ok hX (Nat.le_of_ble_eq_true rfl) (Nat.le_of_ble_eq_true rfl)) (cell_ok hX (Nat.le_of_ble_eq_true rfl) (Nat.le_of_ble_eq_true rfl)) (fun v10 h9 hf => ?_)
      refine s_if_lt (tgt := 42) C dX12_falseOf_37 (by decide) hf (fun hf => ?_) (fun hf => ?_)
      · refine s_aload_n C dX12_falseOf_42 rfl ?_
        refine s_getR C fl_X12_49 dX12_falseOf_43 hf (fun v11 hf => ?_)
        refine s_iload_n C dX12_falseOf_46 rfl ?_
        refine s_iaload C dX12_falseOf_47 hf (fun v12 hf => ?_)
        refine s_istore_n C dX12_falseOf_48 (by decide) (nc_i rfl) (lv' := [some (rB (xD X).1 o), some (.int a1), some (.int v12), none, none]) rfl ?_
        refine s_aload_n C dX12_falseOf_49 rfl ?_
        refine s_getR C fl_X12_13 dX12_falseOf_50 hf (fun v13 hf => ?_)
        refine s_iload_n C dX12_falseOf_53 rfl ?_
        refine s_iaload C dX12_falseOf_54 hf (fun v14 hf => ?_)
        refine s_iconst C dX12_falseOf_55 (v := (5 : Int32)) (by decide) ?_
        refine s_jn hf (fun j80 e80 hf => ?_)
        have k80 : ∀ (h15 : AH), j80 h15 = some r → WW X h15 0 0 80 [some (rB (xD X).1 o), some (.int a1), some (.int v12), none, none] [] := by
          intro h15 hf
          rw [e80] at hf
          refine s_aload_n C dX12_falseOf_80 rfl ?_
          refine s_iload_n C dX12_falseOf_81 rfl ?_
          refine s_iconst C dX12_falseOf_82 (v := (0 : Int32)) (by decide) ?_
          refine s_callV (rvf := fun x => some (.int x)) (st := []) (fr := 1) (lo := 22) (mc := 0) (ms := 0) C [12] wc_X12_nextLog wml_X12_314 wim_X12_nextLog wsl_12_X12_nextLog dX12_falseOf_83 (As := [.inl a1, .inl (0 : Int32)]) rfl hf (fun x h' hF => c_X12_nextLog _ _ _ _ _ _ (x, h') hF) rfl (Nat.le_of_ble_eq_true rfl) (room_ok hX (Nat.le_of_ble_eq_true rfl) (Nat.le_of_ble_eq_true rfl)) (cell_ok hX (Nat.le_of_ble_eq_true rfl) (Nat.le_of_ble_eq_true rfl)) (fun v17 h16 hf => ?_)
          refine s_istore_n C dX12_falseOf_86 (by decide) (nc_i rfl) (lv' := [some (rB (xD X).1 o), some (.int a1), some (.int v12), some (.int v17), none]) rfl ?_
          refine s_aload_n C dX12_falseOf_87 rfl ?_
          refine s_iload_n C dX12_falseOf_88 rfl ?_
          refine s_iconst C dX12_falseOf_89 (v := (1 : Int32)) (by decide) ?_
          refine s_callV (rvf := fun x => some (.int x)) (st := []) (fr := 1) (lo := 22) (mc := 0) (ms := 0) C [12] wc_X12_nextLog wml_X12_314 wim_X12_nextLog wsl_12_X12_nextLog dX12_falseOf_90 (As := [.inl a1, .inl (1 : Int32)]) rfl hf (fun x h' hF => c_X12_nextLog _ _ _ _ _ _ (x, h') hF) rfl (Nat.le_of_ble_eq_true rfl) (room_ok hX (Nat.le_of_ble_eq_true rfl) (Nat.le_of_ble_eq_true rfl)) (cell_ok hX (Nat.le_of_ble_eq_true rfl) (Nat.le_of_ble_eq_true rfl)) (fun v19 h18 hf => ?_)
          refine s_istore C dX12_falseOf_93 (by decide) (nc_i rfl) (lv' := [some (rB (xD X).1 o), some (.int a1), some (.int v12), some (.int v17), some (.int v19)]) rfl ?_
          refine s_aload_n C dX12_falseOf_95 rfl ?_
          refine s_getR C fl_X12_59 dX12_falseOf_96 hf (fun v20 hf => ?_)
          refine s_iload_n C dX12_falseOf_99 rfl ?_
          refine s_iaload C dX12_falseOf_100 hf (fun v21 hf => ?_)
          refine s_jn hf (fun j151 e151 hf => ?_)
          have k151 : ∀ (x22 : Int32) (h23 : AH), j151 x22 h23 = some r → WW X h23 0 0 151 [none, none, none, none, none] [.int x22] := by
            intro x22 h23 hf
            rw [e151] at hf
            exact s_ireturn C E dX12_falseOf_151 hf (Nat.le_of_ble_eq_true rfl) (Nat.le_of_ble_eq_true rfl)
          refine s_jn hf (fun j150 e150 hf => ?_)
          have k150 : ∀ (h24 : AH), j150 h24 = some r → WW X h24 0 0 150 [none, none, none, none, none] [] := by
            intro h24 hf
            rw [e150] at hf
            refine s_iconst C dX12_falseOf_150 (v := (0 : Int32)) (by decide) ?_
            exact k151 _ _ hf
          refine s_if_lt (tgt := 150) C dX12_falseOf_101 (by decide) hf (fun hf => ?_) (fun hf => ?_)
          · refine s_weak (lv' := [none, none, none, none, none]) trivial ?_
            exact k150 _ hf
          · refine s_aload_n C dX12_falseOf_104 rfl ?_
            refine s_aload_n C dX12_falseOf_105 rfl ?_
            refine s_getR C fl_X12_46 dX12_falseOf_106 hf (fun v25 hf => ?_)
            refine s_iload_n C dX12_falseOf_109 rfl ?_
            refine s_iaload C dX12_falseOf_110 hf (fun v26 hf => ?_)
            refine s_iload_n C dX12_falseOf_111 rfl ?_
            refine s_callV (rvf := fun x => some (.int x)) (st := []) (fr := 0) (lo := 0) (mc := 0) (ms := 0) C [12] wc_X12_isOnPaper wml_X12_282 wim_X12_isOnPaper wsl_12_X12_isOnPaper dX12_falseOf_112 (As := [.inl v26, .inl v12]) rfl hf (fun x h' hF => c_X12_isOnPaper _ _ _ _ _ _ (x, h') hF) rfl (Nat.le_of_ble_eq_true rfl) (room_ok hX (Nat.le_of_ble_eq_true rfl) (Nat.le_of_ble_eq_true rfl)) (cell_ok hX (Nat.le_of_ble_eq_true rfl) (Nat.le_of_ble_eq_true rfl)) (fun v28 h27 hf => ?_)
            refine s_if_ne (tgt := 150) C dX12_falseOf_115 (by decide) hf (fun hf => ?_) (fun hf => ?_)
            · refine s_weak (lv' := [none, none, none, none, none]) trivial ?_
              exact k150 _ hf
            · refine s_iload_n C dX12_falseOf_118 rfl ?_
              refine s_if_lt (tgt := 150) C dX12_falseOf_119 (by decide) hf (fun hf => ?_) (fun hf => ?_)
              · refine s_weak (lv' := [none, none, none, none, none]) trivial ?_
                exact k150 _ hf
              · refine s_iload C dX12_falseOf_122 rfl ?_
                refine s_if_lt (tgt := 150) C dX12_falseOf_124 (by decide) hf (fun hf => ?_) (fun hf => ?_)
                · refine s_weak (lv' := [none, none, none, none, none]) trivial ?_
                  exact k150 _ hf
                · refine s_aload_n C dX12_falseOf_127 rfl ?_
                  refine s_getR C fl_X12_55 dX12_falseOf_128 hf (fun v29 hf => ?_)
                  refine s_iload_n C dX12_falseOf_131 rfl ?_
                  refine s_zaload C dX12_falseOf_132 hf (fun v30 hf => ?_)
                  refine s_if_ne (tgt := 150) C dX12_falseOf_133 (by decide) hf (fun hf => ?_) (fun hf => ?_)
                  · refine s_weak (lv' := [none, none, none, none, none]) trivial ?_
                    exact k150 _ hf
                  · refine s_aload_n C dX12_falseOf_136 rfl ?_
                    refine s_getR C fl_X12_55 dX12_falseOf_137 hf (fun v31 hf => ?_)
                    refine s_iload C dX12_falseOf_140 rfl ?_
                    refine s_zaload C dX12_falseOf_142 hf (fun v32 hf => ?_)
                    refine s_if_ne (tgt := 150) C dX12_falseOf_143 (by decide) hf (fun hf => ?_) (fun hf => ?_)
                    · refine s_weak (lv' := [none, none, none, none, none]) trivial ?_
                      exact k150 _ hf
                    · refine s_iconst C dX12_falseOf_146 (v := (4 : Int32)) (by decide) ?_
                      refine s_goto (tgt := 151) C dX12_falseOf_147 (by decide) ?_
                      refine s_weak (lv' := [none, none, none, none, none]) trivial ?_
                      exact k151 _ _ hf
        refine s_icmp_ne (tgt := 80) C dX12_falseOf_56 (by decide) hf (fun hf => ?_) (fun hf => ?_)
        · exact k80 _ hf
        · refine s_aload_n C dX12_falseOf_59 rfl ?_
          refine s_getR C fl_X12_52 dX12_falseOf_60 hf (fun v33 hf => ?_)
          refine s_iload_n C dX12_falseOf_63 rfl ?_
          refine s_iaload C dX12_falseOf_64 hf (fun v34 hf => ?_)
          refine s_bipush C dX12_falseOf_65 (v := (24 : Int32)) (by decide) ?_
          refine s_irem C dX12_falseOf_67 hf (fun hf => ?_)
          refine s_bipush C dX12_falseOf_68 (v := (6 : Int32)) (by decide) ?_
          refine s_bipush C dX12_falseOf_70 (v := (19 : Int32)) (by decide) ?_
          refine s_callS (rvf := fun x => some (.int x)) (st := []) (fr := 0) (lo := 0) (mc := 0) (ms := 0) C wc_X12_in wml_X12_195 wst_X12_in dX12_falseOf_72 (As := [.inl (v34 - v34 / (24 : Int32) * (24 : Int32)), .inl (6 : Int32), .inl (19 : Int32)]) rfl hf (fun x h' hF => c_X12_in _ _ _ _ _ _ (x, h') hF) rfl (Nat.le_of_ble_eq_true rfl) (room_ok hX (Nat.le_of_ble_eq_true rfl) (Nat.le_of_ble_eq_true rfl)) (cell_ok hX (Nat.le_of_ble_eq_true rfl) (Nat.le_of_ble_eq_true rfl)) (fun v36 h35 hf => ?_)
          refine s_if_eq (tgt := 80) C dX12_falseOf_75 (by decide) hf (fun hf => ?_) (fun hf => ?_)
          · exact k80 _ hf
          · refine s_iconst C dX12_falseOf_78 (v := (3 : Int32)) (by decide) ?_
            exact s_ireturn C E dX12_falseOf_79 hf (Nat.le_of_ble_eq_true rfl) (Nat.le_of_ble_eq_true rfl)
      · refine s_iconst C dX12_falseOf_40 (v := (2 : Int32)) (by decide) ?_
        exact s_ireturn C E dX12_falseOf_41 hf (Nat.le_of_ble_eq_true rfl) (Nat.le_of_ble_eq_true rfl)
    · refine s_iconst C dX12_falseOf_30 (v := (1 : Int32)) (by decide) ?_
      exact s_ireturn C E dX12_falseOf_31 hf (Nat.le_of_ble_eq_true rfl) (Nat.le_of_ble_eq_true rfl)
  · refine s_iconst C dX12_falseOf_9 (v := (0 : Int32)) (by decide) ?_
    exact s_ireturn C E dX12_falseOf_10 hf (Nat.le_of_ble_eq_true rfl) (Nat.le_of_ble_eq_true rfl)
/-- HillBoxesModel.foundBy(I)I -/
noncomputable def f_X12_foundBy (o : Option Nat) (a1 : Int32) (h : AH) : Option (Int32 × AH) :=
  lp (fun _ _ => none) (fun (L4 : Int32 → Int32 → Option (Int32 × AH)) (x1 : Int32) (x2 : Int32) =>
    fI h [12] o 17 fun v3 =>
    if v3 ≤ x2 then
      some (x1, h)
    else
      fR h [12] o 18 fun v4 =>
      aI h 20 v4 x2 fun v5 =>
      jn (fun (x6 : Int32) =>
        L4 (x1 + x6) (x2 + 1)) fun j37 =>
      jn (
        j37 (0 : Int32)) fun j36 =>
      if v5 = a1 then
        fR h [12] o 21 fun v7 =>
        aI h 23 v7 x2 fun v8 =>
        if v8 = 0 then
          j36
        else
          j37 (1 : Int32)
      else
        j36) lpN (0 : Int32) (0 : Int32)
set_option maxRecDepth 100000 in
set_option maxHeartbeats 4000000 in
theorem c_X12_foundBy (l : Launch) (D : DT) (o : Option Nat) (a1 : Int32) (h : AH) (r : Int32 × AH) (hf : f_X12_foundBy o a1 h = some r) : CM l D yX12_foundBy cX12_foundBy 4 (some .int) 0 0 0 0 [.inr (.inr o), .inl a1] h (some (.int r.1)) r.2 := by
  refine CM.of (by decide) (Nat.le_of_ble_eq_true rfl) (fun X hl C hD hX hnm E => ?_)
  subst hl
  subst hD
  have C : CX X RX12 cX12_foundBy 4 := C
  show WW X h 0 0 0 [some (rB (xD X).1 o), some (.int a1), none, none] []
  unfold f_X12_foundBy at hf
  refine s_iconst C dX12_foundBy_0 (v := (0 : Int32)) (by decide) ?_
  refine s_istore_n C dX12_foundBy_1 (by decide) (nc_i rfl) (lv' := [some (rB (xD X).1 o), some (.int a1), some (.int (0 : Int32)), none]) rfl ?_
  refine s_iconst C dX12_foundBy_2 (v := (0 : Int32)) (by decide) ?_
  refine s_istore_n C dX12_foundBy_3 (by decide) (nc_i rfl) (lv' := [some (rB (xD X).1 o), some (.int a1), some (.int (0 : Int32)), some (.int (0 : Int32))]) rfl ?_
  refine s_lp2 hf (fun G4 z4 q4 hf => ?_)
  have k4 : ∀ (n : Nat) (x1 : Int32) (x2 : Int32), G4 n x1 x2 = some r → WW X h 0 0 4 [some (rB (xD X).1 o), some (.int a1), some (.int x1), some (.int x2)] [] := by
    intro n
    induction n with
    | zero =>
      intro x1 x2 hf
      rw [z4] at hf
      cases hf
    | succ n ih4 =>
      intro x1 x2 hf
      have hf := (q4 n x1 x2).symm.trans hf
      refine s_iload_n C dX12_foundBy_4 rfl ?_
      refine s_aload_n C dX12_foundBy_5 rfl ?_
      refine s_getI C fl_X12_252 dX12_foundBy_6 hf (fun v3 hf => ?_)
      refine s_icmp_ge (tgt := 45) C dX12_foundBy_9 (by decide) hf (fun hf => ?_) (fun hf => ?_)
      · refine s_iload_n C dX12_foundBy_45 rfl ?_
        exact s_ireturn C E dX12_foundBy_46 hf (Nat.le_of_ble_eq_true rfl) (Nat.le_of_ble_eq_true rfl)
      · refine s_iload_n C dX12_foundBy_12 rfl ?_
        refine s_aload_n C dX12_foundBy_13 rfl ?_
        refine s_getR C fl_X12_46 dX12_foundBy_14 hf (fun v4 hf => ?_)
        refine s_iload_n C dX12_foundBy_17 rfl ?_
        refine s_iaload C dX12_foundBy_18 hf (fun v5 hf => ?_)
        refine s_iload_n C dX12_foundBy_19 rfl ?_
        refine s_jn hf (fun j37 e37 hf => ?_)
        have k37 : ∀ (x6 : Int32), j37 x6 = some r → WW X h 0 0 37 [some (rB (xD X).1 o), some (.int a1), none, some (.int x2)] [.int x6, .int x1] := by
          intro x6 hf
          rw [e37] at hf
          refine s_iadd C dX12_foundBy_37 ?_
          refine s_istore_n C dX12_foundBy_38 (by decide) (nc_i rfl) (lv' := [some (rB (xD X).1 o), some (.int a1), some (.int (x1 + x6)), some (.int x2)]) rfl ?_
          refine s_iinc C dX12_foundBy_39 (v := (x2 + 1)) rfl rfl (by decide) (nc_i rfl) (lv' := [some (rB (xD X).1 o), some (.int a1), some (.int (x1 + x6)), some (.int (x2 + 1))]) rfl ?_
          refine s_goto (tgt := 4) C dX12_foundBy_42 (by decide) ?_
          exact ih4 _ _ hf
        refine s_jn hf (fun j36 e36 hf => ?_)
        have k36 : j36  = some r → WW X h 0 0 36 [some (rB (xD X).1 o), some (.int a1), none, some (.int x2)] [.int x1] := by
          intro  hf
          rw [e36] at hf
          refine s_iconst C dX12_foundBy_36 (v := (0 : Int32)) (by decide) ?_
          exact k37 _ hf
        refine s_icmp_ne (tgt := 36) C dX12_foundBy_20 (by decide) hf (fun hf => ?_) (fun hf => ?_)
        · refine s_weak (lv' := [some (rB (xD X).1 o), some (.int a1), none, some (.int x2)]) ⟨rfl, ⟨rfl, ⟨rfl, trivial⟩⟩⟩ ?_
          exact k36 hf
        · refine s_aload_n C dX12_foundBy_23 rfl ?_
          refine s_getR C fl_X12_55 dX12_foundBy_24 hf (fun v7 hf => ?_)
          refine s_iload_n C dX12_foundBy_27 rfl ?_
          refine s_zaload C dX12_foundBy_28 hf (fun v8 hf => ?_)
          refine s_if_eq (tgt := 36) C dX12_foundBy_29 (by decide) hf (fun hf => ?_) (fun hf => ?_)
          · refine s_weak (lv' := [some (rB (xD X).1 o), some (.int a1), none, some (.int x2)]) ⟨rfl, ⟨rfl, ⟨rfl, trivial⟩⟩⟩ ?_
            exact k36 hf
          · refine s_iconst C dX12_foundBy_32 (v := (1 : Int32)) (by decide) ?_
            refine s_goto (tgt := 37) C dX12_foundBy_33 (by decide) ?_
            refine s_weak (lv' := [some (rB (xD X).1 o), some (.int a1), none, some (.int x2)]) ⟨rfl, ⟨rfl, ⟨rfl, trivial⟩⟩⟩ ?_
            exact k37 _ hf
  exact k4 lpN _ _ hf
/-- HillBoxesModel.chance(I)I -/
noncomputable def f_X12_chance (o : Option Nat) (a1 : Int32) (h : AH) : Option (Int32 × AH) :=
  cl (f_X12_in a1 (0 : Int32) (1 : Int32) h) fun v2 h1 =>
  if v2 = 0 then
    some ((-1 : Int32), h1)
  else
    lp (fun _ _ _ => none) (fun (L15 : Int32 → Int32 → AH → Option (Int32 × AH)) (x3 : Int32) (x4 : Int32) (h5 : AH) =>
      fI h5 [12] o 17 fun v6 =>
      if v6 ≤ x4 then
        some (x3, h5)
      else
        fR h5 [12] o 21 fun v7 =>
        aI h5 23 v7 x4 fun v8 =>
        jn (fun (x9 : Int32) (h10 : AH) =>
          L15 x9 (x4 + 1) h10) fun j67 =>
        if v8 = 0 then
          j67 x3 h5
        else
          fR h5 [12] o 18 fun v11 =>
          aI h5 20 v11 x4 fun v12 =>
          rO h5 [12] o <| cl (f_X12_foundBy o v12 h5) fun v14 h13 =>
          if v14 ≤ (1 : Int32) then
            j67 x3 h13
          else
            jn (fun (x15 : Int32) (h16 : AH) =>
              j67 (x3 + x15) h16) fun j65 =>
            jn (fun (h17 : AH) =>
              j65 (1 : Int32) h17) fun j60 =>
            if a1 = 0 then
              j60 h13
            else
              rO h13 [12] o <| cl (f_X12_falseOf o x4 h13) fun v19 h18 =>
              if v19 = (2 : Int32) then
                j60 h18
              else
                j65 (0 : Int32) h18) lpN (0 : Int32) (0 : Int32) h1
set_option maxRecDepth 100000 in
set_option maxHeartbeats 4000000 in
theorem c_X12_chance (l : Launch) (D : DT) (o : Option Nat) (a1 : Int32) (h : AH) (r : Int32 × AH) (hf : f_X12_chance o a1 h = some r) : CM l D yX12_chance cX12_chance 4 (some .int) 5 114 0 0 [.inr (.inr o), .inl a1] h (some (.int r.1)) r.2 := by
  refine CM.of (by decide) (Nat.le_of_ble_eq_true rfl) (fun X hl C hD hX hnm E => ?_)
  subst hl
  subst hD
  have C : CX X RX12 cX12_chance 4 := C
  show WW X h 0 0 0 [some (rB (xD X).1 o), some (.int a1), none, none] []
  unfold f_X12_chance at hf
  refine s_iload_n C dX12_chance_0 rfl ?_
  refine s_iconst C dX12_chance_1 (v := (0 : Int32)) (by decide) ?_
  refine s_iconst C dX12_chance_2 (v := (1 : Int32)) (by decide) ?_
  refine s_callS (rvf := fun x => some (.int x)) (st := []) (fr := 0) (lo := 0) (mc := 0) (ms := 0) C wc_X12_in wml_X12_195 wst_X12_in dX12_chance_3 (As := [.inl a1, .inl (0 : Int32), .inl (1 : Int32)]) rfl hf (fun x h' hF => c_X12_in _ _ _ _ _ _ (x, h') hF) rfl (Nat.le_of_ble_eq_true rfl) (room_ok hX (Nat.le_of_ble_eq_true rfl) (Nat.le_of_ble_eq_true rfl)) (cell_ok hX (Nat.le_of_ble_eq_true rfl) (Nat.le_of_ble_eq_true rfl)) (fun v2 h1 hf => ?_)
  refine s_if_ne (tgt := 11) C dX12_chance_6 (by decide) hf (fun hf => ?_) (fun hf => ?_)
  · refine s_iconst C dX12_chance_11 (v := (0 : Int32)) (by decide) ?_
    refine s_istore_n C dX12_chance_12 (by decide) (nc_i rfl) (lv' := [some (rB (xD X).1 o), some (.int a1), some (.int (0 : Int32)), none]) rfl ?_
    refine s_iconst C dX12_chance_13 (v := (0 : Int32)) (by decide) ?_
    refine s_istore_n C dX12_chance_14 (by decide) (nc_i rfl) (lv' := [some (rB (xD X).1 o), some (.int a1), some (.int (0 : Int32)), some (.int (0 : Int32))]) rfl ?_
    refine s_lp3 hf (fun G15 z15 q15 hf => ?_)
    have k15 : ∀ (n : Nat) (x3 : Int32) (x4 : Int32) (h5 : AH), G15 n x3 x4 h5 = some r → WW X h5 0 0 15 [some (rB (xD X).1 o), some (.int a1), some (.int x3), some (.int x4)] [] := by
      intro n
      induction n with
      | zero =>
        intro x3 x4 h5 hf
        rw [z15] at hf
        cases hf
      | succ n ih15 =>
        intro x3 x4 h5 hf
        have hf := (q15 n x3 x4 h5).symm.trans hf
        refine s_iload_n C dX12_chance_15 rfl ?_
        refine s_aload_n C dX12_chance_16 rfl ?_
        refine s_getI C fl_X12_252 dX12_chance_17 hf (fun v6 hf => ?_)
        refine s_icmp_ge (tgt := 73) C dX12_chance_20 (by decide) hf (fun hf => ?_) (fun hf => ?_)
        · refine s_iload_n C dX12_chance_73 rfl ?_
          exact s_ireturn C E dX12_chance_74 hf (Nat.le_of_ble_eq_true rfl) (Nat.le_of_ble_eq_true rfl)
        · refine s_aload_n C dX12_chance_23 rfl ?_
          refine s_getR C fl_X12_55 dX12_chance_24 hf (fun v7 hf => ?_)
          refine s_iload_n C dX12_chance_27 rfl ?_
          refine s_zaload C dX12_chance_28 hf (fun v8 hf => ?_)
          refine s_jn hf (fun j67 e67 hf => ?_)
          have k67 : ∀ (x9 : Int32) (h10 : AH), j67 x9 h10 = some r → WW X h10 0 0 67 [some (rB (xD X).1 o), some (.int a1), some (.int x9), some (.int x4)] [] := by
            intro x9 h10 hf
            rw [e67] at hf
            refine s_iinc C dX12_chance_67 (v := (x4 + 1)) rfl rfl (by decide) (nc_i rfl) (lv' := [some (rB (xD X).1 o), some (.int a1), some (.int x9), some (.int (x4 + 1))]) rfl ?_
            refine s_goto (tgt := 15) C dX12_chance_70 (by decide) ?_
            exact ih15 _ _ _ hf
          refine s_if_eq (tgt := 67) C dX12_chance_29 (by decide) hf (fun hf => ?_) (fun hf => ?_)
          · exact k67 _ _ hf
          · refine s_aload_n C dX12_chance_32 rfl ?_
            refine s_aload_n C dX12_chance_33 rfl ?_
            refine s_getR C fl_X12_46 dX12_chance_34 hf (fun v11 hf => ?_)
            refine s_iload_n C dX12_chance_37 rfl ?_
            refine s_iaload C dX12_chance_38 hf (fun v12 hf => ?_)
            refine s_callV (rvf := fun x => some (.int x)) (st := []) (fr := 0) (lo := 0) (mc := 0) (ms := 0) C [12] wc_X12_foundBy wml_X12_324 wim_X12_foundBy wsl_12_X12_foundBy dX12_chance_39 (As := [.inl v12]) rfl hf (fun x h' hF => c_X12_foundBy _ _ _ _ _ (x, h') hF) rfl (Nat.le_of_ble_eq_true rfl) (room_ok hX (Nat.le_of_ble_eq_true rfl) (Nat.le_of_ble_eq_true rfl)) (cell_ok hX (Nat.le_of_ble_eq_true rfl) (Nat.le_of_ble_eq_true rfl)) (fun v14 h13 hf => ?_)
            refine s_iconst C dX12_chance_42 (v := (1 : Int32)) (by decide) ?_
            refine s_icmp_le (tgt := 67) C dX12_chance_43 (by decide) hf (fun hf => ?_) (fun hf => ?_)
            · exact k67 _ _ hf
            · refine s_iload_n C dX12_chance_46 rfl ?_
              refine s_iload_n C dX12_chance_47 rfl ?_
              refine s_jn hf (fun j65 e65 hf => ?_)
              have k65 : ∀ (x15 : Int32) (h16 : AH), j65 x15 h16 = some r → WW X h16 0 0 65 [some (rB (xD X).1 o), some (.int a1), none, some (.int x4)] [.int x15, .int x3] := by
                intro x15 h16 hf
                rw [e65] at hf
                refine s_iadd C dX12_chance_65 ?_
                refine s_istore_n C dX12_chance_66 (by decide) (nc_i rfl) (lv' := [some (rB (xD X).1 o), some (.int a1), some (.int (x3 + x15)), some (.int x4)]) rfl ?_
                exact k67 _ _ hf
              refine s_jn hf (fun j60 e60 hf => ?_)
              have k60 : ∀ (h17 : AH), j60 h17 = some r → WW X h17 0 0 60 [some (rB (xD X).1 o), some (.int a1), none, some (.int x4)] [.int x3] := by
                intro h17 hf
                rw [e60] at hf
                refine s_iconst C dX12_chance_60 (v := (1 : Int32)) (by decide) ?_
                refine s_goto (tgt := 65) C dX12_chance_61 (by decide) ?_
                exact k65 _ _ hf
              refine s_if_eq (tgt := 60) C dX12_chance_48 (by decide) hf (fun hf => ?_) (fun hf => ?_)
              · refine s_weak (lv' := [some (rB (xD X).1 o), some (.int a1), none, some (.int x4)]) ⟨rfl, ⟨rfl, ⟨rfl, trivial⟩⟩⟩ ?_
                exact k60 _ hf
              · refine s_aload_n C dX12_chance_51 rfl ?_
                refine s_iload_n C dX12_chance_52 rfl ?_
                refine s_callV (rvf := fun x => some (.int x)) (st := [.int x3]) (fr := 4) (lo := 90) (mc := 0) (ms := 0) C [12] wc_X12_falseOf wml_X12_321 wim_X12_falseOf wsl_12_X12_falseOf dX12_chance_53 (As := [.inl x4]) rfl hf (fun x h' hF => c_X12_falseOf _ _ _ _ _ (x, h') hF) rfl (Nat.le_of_ble_eq_true rfl) (room_ok hX (Nat.le_of_ble_eq_true rfl) (Nat.le_of_ble_eq_true rfl)) (cell_ok hX (Nat.le_of_ble_eq_true rfl) (Nat.le_of_ble_eq_true rfl)) (fun v19 h18 hf => ?_)
                refine s_iconst C dX12_chance_56 (v := (2 : Int32)) (by decide) ?_
                refine s_icmp_ne (tgt := 64) C dX12_chance_57 (by decide) hf (fun hf => ?_) (fun hf => ?_)
                · refine s_iconst C dX12_chance_64 (v := (0 : Int32)) (by decide) ?_
                  refine s_weak (lv' := [some (rB (xD X).1 o), some (.int a1), none, some (.int x4)]) ⟨rfl, ⟨rfl, ⟨rfl, trivial⟩⟩⟩ ?_
                  exact k65 _ _ hf
                · refine s_weak (lv' := [some (rB (xD X).1 o), some (.int a1), none, some (.int x4)]) ⟨rfl, ⟨rfl, ⟨rfl, trivial⟩⟩⟩ ?_
                  exact k60 _ hf
    exact k15 lpN _ _ _ hf
  · refine s_iconst C dX12_chance_9 (v := (-1 : Int32)) (by decide) ?_
    exact s_ireturn C E dX12_chance_10 hf (Nat.le_of_ble_eq_true rfl) (Nat.le_of_ble_eq_true rfl)
/-- HillBoxesModel.isOut(I)Z -/
noncomputable def f_X12_isOut (o : Option Nat) (a1 : Int32) (h : AH) : Option (Int32 × AH) :=
  rO h [12] o <| cl (f_X12_isBox o a1 h) fun v2 h1 =>
  jn (fun (x3 : Int32) =>
    rz x3 h1) fun j22 =>
  jn (
    j22 (0 : Int32)) fun j21 =>
  if v2 = 0 then
    j21
  else
    fR h1 [12] o 7 fun v4 =>
    aI h1 20 v4 a1 fun v5 =>
    if 0 ≤ v5 then
      j21
    else
      j22 (1 : Int32)
set_option maxRecDepth 100000 in
set_option maxHeartbeats 4000000 in
theorem c_X12_isOut (l : Launch) (D : DT) (o : Option Nat) (a1 : Int32) (h : AH) (r : Int32 × AH) (hf : f_X12_isOut o a1 h = some r) : CM l D yX12_isOut cX12_isOut 2 (some .boolean) 3 64 0 0 [.inr (.inr o), .inl a1] h (some (.int r.1)) r.2 := by
  refine CM.of (by decide) (Nat.le_of_ble_eq_true rfl) (fun X hl C hD hX hnm E => ?_)
  subst hl
  subst hD
  have C : CX X RX12 cX12_isOut 2 := C
  show WW X h 0 0 0 [some (rB (xD X).1 o), some (.int a1)] []
  unfold f_X12_isOut at hf
  refine s_aload_n C dX12_isOut_0 rfl ?_
  refine s_iload_n C dX12_isOut_1 rfl ?_
  refine s_callV (rvf := fun x => some (.int x)) (st := []) (fr := 2) (lo := 43) (mc := 0) (ms := 0) C [12] wc_X12_isBox wml_X12_224 wim_X12_isBox wsl_12_X12_isBox dX12_isOut_2 (As := [.inl a1]) rfl hf (fun x h' hF => c_X12_isBox _ _ _ _ _ (x, h') hF) rfl (Nat.le_of_ble_eq_true rfl) (room_ok hX (Nat.le_of_ble_eq_true rfl) (Nat.le_of_ble_eq_true rfl)) (cell_ok hX (Nat.le_of_ble_eq_true rfl) (Nat.le_of_ble_eq_true rfl)) (fun v2 h1 hf => ?_)
  refine s_jn hf (fun j22 e22 hf => ?_)
  have k22 : ∀ (x3 : Int32), j22 x3 = some r → WW X h1 0 0 22 [none, none] [.int x3] := by
    intro x3 hf
    rw [e22] at hf
    exact s_zreturn C E dX12_isOut_22 hf (Nat.le_of_ble_eq_true rfl) (Nat.le_of_ble_eq_true rfl)
  refine s_jn hf (fun j21 e21 hf => ?_)
  have k21 : j21  = some r → WW X h1 0 0 21 [none, none] [] := by
    intro  hf
    rw [e21] at hf
    refine s_iconst C dX12_isOut_21 (v := (0 : Int32)) (by decide) ?_
    exact k22 _ hf
  refine s_if_eq (tgt := 21) C dX12_isOut_5 (by decide) hf (fun hf => ?_) (fun hf => ?_)
  · refine s_weak (lv' := [none, none]) trivial ?_
    exact k21 hf
  · refine s_aload_n C dX12_isOut_8 rfl ?_
    refine s_getR C fl_X12_22 dX12_isOut_9 hf (fun v4 hf => ?_)
    refine s_iload_n C dX12_isOut_12 rfl ?_
    refine s_iaload C dX12_isOut_13 hf (fun v5 hf => ?_)
    refine s_if_ge (tgt := 21) C dX12_isOut_14 (by decide) hf (fun hf => ?_) (fun hf => ?_)
    · refine s_weak (lv' := [none, none]) trivial ?_
      exact k21 hf
    · refine s_iconst C dX12_isOut_17 (v := (1 : Int32)) (by decide) ?_
      refine s_goto (tgt := 22) C dX12_isOut_18 (by decide) ?_
      refine s_weak (lv' := [none, none]) trivial ?_
      exact k22 _ hf
/-- HillBoxesModel.count(I)I -/
noncomputable def f_X12_count (o : Option Nat) (a1 : Int32) (h : AH) : Option (Int32 × AH) :=
  if a1 = 0 then
    fI h [12] o 3 fun v1 =>
    some (v1, h)
  else
  if a1 = 1 then
    lp (fun _ _ _ => none) (fun (L67 : Int32 → Int32 → AH → Option (Int32 × AH)) (x2 : Int32) (x3 : Int32) (h4 : AH) =>
      fI h4 [12] o 3 fun v5 =>
      if v5 ≤ x3 then
        some (x2, h4)
      else
        jn (fun (x6 : Int32) (h7 : AH) =>
          L67 (x2 + x6) (x3 + 1) h7) fun j110 =>
        if a1 = (1 : Int32) then
          rO h4 [12] o <| cl (f_X12_isBox o x3 h4) fun v11 h10 =>
          if v11 = 0 then
            j110 (0 : Int32) h10
          else
            j110 (1 : Int32) h10
        else
          rO h4 [12] o <| cl (f_X12_isOut o x3 h4) fun v9 h8 =>
          if v9 = 0 then
            j110 (0 : Int32) h8
          else
            j110 (1 : Int32) h8) lpN (0 : Int32) (0 : Int32) h
  else
  if a1 = 2 then
    lp (fun _ _ _ => none) (fun (L67 : Int32 → Int32 → AH → Option (Int32 × AH)) (x12 : Int32) (x13 : Int32) (h14 : AH) =>
      fI h14 [12] o 3 fun v15 =>
      if v15 ≤ x13 then
        some (x12, h14)
      else
        jn (fun (x16 : Int32) (h17 : AH) =>
          L67 (x12 + x16) (x13 + 1) h17) fun j110 =>
        if a1 = (1 : Int32) then
          rO h14 [12] o <| cl (f_X12_isBox o x13 h14) fun v21 h20 =>
          if v21 = 0 then
            j110 (0 : Int32) h20
          else
            j110 (1 : Int32) h20
        else
          rO h14 [12] o <| cl (f_X12_isOut o x13 h14) fun v19 h18 =>
          if v19 = 0 then
            j110 (0 : Int32) h18
          else
            j110 (1 : Int32) h18) lpN (0 : Int32) (0 : Int32) h
  else
  if a1 = 3 then
    lp (fun _ _ => none) (fun (L122 : Int32 → Int32 → Option (Int32 × AH)) (x22 : Int32) (x23 : Int32) =>
      fI h [12] o 3 fun v24 =>
      if v24 ≤ x23 then
        some (x22, h)
      else
        fR h [12] o 4 fun v25 =>
        aI h 20 v25 x23 fun v26 =>
        jn (fun (x27 : Int32) =>
          L122 (x22 + x27) (x23 + 1)) fun j161 =>
        jn (
          j161 (0 : Int32)) fun j160 =>
        if v26 = (7 : Int32) then
          jn (
            j161 (1 : Int32)) fun j156 =>
          if a1 = (3 : Int32) then
            j156
          else
            fR h [12] o 7 fun v28 =>
            aI h 20 v28 x23 fun v29 =>
            if 0 ≤ v29 then
              j160
            else
              j156
        else
          j160) lpN (0 : Int32) (0 : Int32)
  else
  if a1 = 4 then
    lp (fun _ _ => none) (fun (L122 : Int32 → Int32 → Option (Int32 × AH)) (x30 : Int32) (x31 : Int32) =>
      fI h [12] o 3 fun v32 =>
      if v32 ≤ x31 then
        some (x30, h)
      else
        fR h [12] o 4 fun v33 =>
        aI h 20 v33 x31 fun v34 =>
        jn (fun (x35 : Int32) =>
          L122 (x30 + x35) (x31 + 1)) fun j161 =>
        jn (
          j161 (0 : Int32)) fun j160 =>
        if v34 = (7 : Int32) then
          jn (
            j161 (1 : Int32)) fun j156 =>
          if a1 = (3 : Int32) then
            j156
          else
            fR h [12] o 7 fun v36 =>
            aI h 20 v36 x31 fun v37 =>
            if 0 ≤ v37 then
              j160
            else
              j156
        else
          j160) lpN (0 : Int32) (0 : Int32)
  else
  if a1 = 5 then
    fI h [12] o 17 fun v38 =>
    some (v38, h)
  else
  if a1 = 6 then
    fI h [12] o 33 fun v39 =>
    some (v39, h)
  else
  if a1 = 7 then
    fI h [12] o 25 fun v40 =>
    some (v40, h)
  else
  if a1 = 8 then
    fI h [12] o 1 fun v41 =>
    some (v41, h)
  else
  if a1 = 9 then
    fI h [12] o 11 fun v42 =>
    some (v42, h)
  else
  if a1 = 10 then
    fI h [12] o 84 fun v43 =>
    some (v43, h)
  else
    some ((-1 : Int32), h)
set_option maxRecDepth 100000 in
set_option maxHeartbeats 4000000 in
theorem c_X12_count (l : Launch) (D : DT) (o : Option Nat) (a1 : Int32) (h : AH) (r : Int32 × AH) (hf : f_X12_count o a1 h = some r) : CM l D yX12_count cX12_count 4 (some .int) 4 85 0 0 [.inr (.inr o), .inl a1] h (some (.int r.1)) r.2 := by
  refine CM.of (by decide) (Nat.le_of_ble_eq_true rfl) (fun X hl C hD hX hnm E => ?_)
  subst hl
  subst hD
  have C : CX X RX12 cX12_count 4 := C
  show WW X h 0 0 0 [some (rB (xD X).1 o), some (.int a1), none, none] []
  unfold f_X12_count at hf
  refine s_iconst C dX12_count_0 (v := (0 : Int32)) (by decide) ?_
  refine s_istore_n C dX12_count_1 (by decide) (nc_i rfl) (lv' := [some (rB (xD X).1 o), some (.int a1), some (.int (0 : Int32)), none]) rfl ?_
  refine s_iload_n C dX12_count_2 rfl ?_
  refine s_ite hf (fun e hf => ?_) (fun n0 hf => ?_)
  · refine s_tsw1 (tgt := 60) C dX12_count_3 e (by decide) (by decide) rfl (by decide) ?_
    refine s_aload_n C dX12_count_60 rfl ?_
    refine s_getI C fl_X12_214 dX12_count_61 hf (fun v1 hf => ?_)
    exact s_ireturn C E dX12_count_64 hf (Nat.le_of_ble_eq_true rfl) (Nat.le_of_ble_eq_true rfl)
  refine s_ite hf (fun e hf => ?_) (fun n1 hf => ?_)
  · refine s_tsw1 (tgt := 65) C dX12_count_3 e (by decide) (by decide) rfl (by decide) ?_
    refine s_iconst C dX12_count_65 (v := (0 : Int32)) (by decide) ?_
    refine s_istore_n C dX12_count_66 (by decide) (nc_i rfl) (lv' := [some (rB (xD X).1 o), some (.int a1), some (.int (0 : Int32)), some (.int (0 : Int32))]) rfl ?_
    refine s_lp3 hf (fun G67 z67 q67 hf => ?_)
    have k67 : ∀ (n : Nat) (x2 : Int32) (x3 : Int32) (h4 : AH), G67 n x2 x3 h4 = some r → WW X h4 0 0 67 [some (rB (xD X).1 o), some (.int a1), some (.int x2), some (.int x3)] [] := by
      intro n
      induction n with
      | zero =>
        intro x2 x3 h4 hf
        rw [z67] at hf
        cases hf
      | succ n ih67 =>
        intro x2 x3 h4 hf
        have hf := (q67 n x2 x3 h4).symm.trans hf
        refine s_iload_n C dX12_count_67 rfl ?_
        refine s_aload_n C dX12_count_68 rfl ?_
        refine s_getI C fl_X12_214 dX12_count_69 hf (fun v5 hf => ?_)
        refine s_icmp_ge (tgt := 118) C dX12_count_72 (by decide) hf (fun hf => ?_) (fun hf => ?_)
        · refine s_iload_n C dX12_count_118 rfl ?_
          exact s_ireturn C E dX12_count_119 hf (Nat.le_of_ble_eq_true rfl) (Nat.le_of_ble_eq_true rfl)
        · refine s_iload_n C dX12_count_75 rfl ?_
          refine s_iload_n C dX12_count_76 rfl ?_
          refine s_iconst C dX12_count_77 (v := (1 : Int32)) (by decide) ?_
          refine s_jn hf (fun j110 e110 hf => ?_)
          have k110 : ∀ (x6 : Int32) (h7 : AH), j110 x6 h7 = some r → WW X h7 0 0 110 [some (rB (xD X).1 o), some (.int a1), none, some (.int x3)] [.int x6, .int x2] := by
            intro x6 h7 hf
            rw [e110] at hf
            refine s_iadd C dX12_count_110 ?_
            refine s_istore_n C dX12_count_111 (by decide) (nc_i rfl) (lv' := [some (rB (xD X).1 o), some (.int a1), some (.int (x2 + x6)), some (.int x3)]) rfl ?_
            refine s_iinc C dX12_count_112 (v := (x3 + 1)) rfl rfl (by decide) (nc_i rfl) (lv' := [some (rB (xD X).1 o), some (.int a1), some (.int (x2 + x6)), some (.int (x3 + 1))]) rfl ?_
            refine s_goto (tgt := 67) C dX12_count_115 (by decide) ?_
            exact ih67 _ _ _ hf
          refine s_icmp_ne (tgt := 97) C dX12_count_78 (by decide) hf (fun hf => ?_) (fun hf => ?_)
          · refine s_aload_n C dX12_count_97 rfl ?_
            refine s_iload_n C dX12_count_98 rfl ?_
            refine s_callV (rvf := fun x => some (.int x)) (st := [.int x2]) (fr := 3) (lo := 64) (mc := 0) (ms := 0) C [12] wc_X12_isOut wml_X12_255 wim_X12_isOut wsl_12_X12_isOut dX12_count_99 (As := [.inl x3]) rfl hf (fun x h' hF => c_X12_isOut _ _ _ _ _ (x, h') hF) rfl (Nat.le_of_ble_eq_true rfl) (room_ok hX (Nat.le_of_ble_eq_true rfl) (Nat.le_of_ble_eq_true rfl)) (cell_ok hX (Nat.le_of_ble_eq_true rfl) (Nat.le_of_ble_eq_true rfl)) (fun v9 h8 hf => ?_)
            refine s_if_eq (tgt := 109) C dX12_count_102 (by decide) hf (fun hf => ?_) (fun hf => ?_)
            · refine s_iconst C dX12_count_109 (v := (0 : Int32)) (by decide) ?_
              refine s_weak (lv' := [some (rB (xD X).1 o), some (.int a1), none, some (.int x3)]) ⟨rfl, ⟨rfl, ⟨rfl, trivial⟩⟩⟩ ?_
              exact k110 _ _ hf
            · refine s_iconst C dX12_count_105 (v := (1 : Int32)) (by decide) ?_
              refine s_goto (tgt := 110) C dX12_count_106 (by decide) ?_
              refine s_weak (lv' := [some (rB (xD X).1 o), some (.int a1), none, some (.int x3)]) ⟨rfl, ⟨rfl, ⟨rfl, trivial⟩⟩⟩ ?_
              exact k110 _ _ hf
          · refine s_aload_n C dX12_count_81 rfl ?_
            refine s_iload_n C dX12_count_82 rfl ?_
            refine s_callV (rvf := fun x => some (.int x)) (st := [.int x2]) (fr := 2) (lo := 43) (mc := 0) (ms := 0) C [12] wc_X12_isBox wml_X12_224 wim_X12_isBox wsl_12_X12_isBox dX12_count_83 (As := [.inl x3]) rfl hf (fun x h' hF => c_X12_isBox _ _ _ _ _ (x, h') hF) rfl (Nat.le_of_ble_eq_true rfl) (room_ok hX (Nat.le_of_ble_eq_true rfl) (Nat.le_of_ble_eq_true rfl)) (cell_ok hX (Nat.le_of_ble_eq_true rfl) (Nat.le_of_ble_eq_true rfl)) (fun v11 h10 hf => ?_)
            refine s_if_eq (tgt := 93) C dX12_count_86 (by decide) hf (fun hf => ?_) (fun hf => ?_)
            · refine s_iconst C dX12_count_93 (v := (0 : Int32)) (by decide) ?_
              refine s_goto (tgt := 110) C dX12_count_94 (by decide) ?_
              refine s_weak (lv' := [some (rB (xD X).1 o), some (.int a1), none, some (.int x3)]) ⟨rfl, ⟨rfl, ⟨rfl, trivial⟩⟩⟩ ?_
              exact k110 _ _ hf
            · refine s_iconst C dX12_count_89 (v := (1 : Int32)) (by decide) ?_
              refine s_goto (tgt := 110) C dX12_count_90 (by decide) ?_
              refine s_weak (lv' := [some (rB (xD X).1 o), some (.int a1), none, some (.int x3)]) ⟨rfl, ⟨rfl, ⟨rfl, trivial⟩⟩⟩ ?_
              exact k110 _ _ hf
    exact k67 lpN _ _ _ hf
  refine s_ite hf (fun e hf => ?_) (fun n2 hf => ?_)
  · refine s_tsw1 (tgt := 65) C dX12_count_3 e (by decide) (by decide) rfl (by decide) ?_
    refine s_iconst C dX12_count_65 (v := (0 : Int32)) (by decide) ?_
    refine s_istore_n C dX12_count_66 (by decide) (nc_i rfl) (lv' := [some (rB (xD X).1 o), some (.int a1), some (.int (0 : Int32)), some (.int (0 : Int32))]) rfl ?_
    refine s_lp3 hf (fun G67 z67 q67 hf => ?_)
    have k67 : ∀ (n : Nat) (x12 : Int32) (x13 : Int32) (h14 : AH), G67 n x12 x13 h14 = some r → WW X h14 0 0 67 [some (rB (xD X).1 o), some (.int a1), some (.int x12), some (.int x13)] [] := by
      intro n
      induction n with
      | zero =>
        intro x12 x13 h14 hf
        rw [z67] at hf
        cases hf
      | succ n ih67 =>
        intro x12 x13 h14 hf
        have hf := (q67 n x12 x13 h14).symm.trans hf
        refine s_iload_n C dX12_count_67 rfl ?_
        refine s_aload_n C dX12_count_68 rfl ?_
        refine s_getI C fl_X12_214 dX12_count_69 hf (fun v15 hf => ?_)
        refine s_icmp_ge (tgt := 118) C dX12_count_72 (by decide) hf (fun hf => ?_) (fun hf => ?_)
        · refine s_iload_n C dX12_count_118 rfl ?_
          exact s_ireturn C E dX12_count_119 hf (Nat.le_of_ble_eq_true rfl) (Nat.le_of_ble_eq_true rfl)
        · refine s_iload_n C dX12_count_75 rfl ?_
          refine s_iload_n C dX12_count_76 rfl ?_
          refine s_iconst C dX12_count_77 (v := (1 : Int32)) (by decide) ?_
          refine s_jn hf (fun j110 e110 hf => ?_)
          have k110 : ∀ (x16 : Int32) (h17 : AH), j110 x16 h17 = some r → WW X h17 0 0 110 [some (rB (xD X).1 o), some (.int a1), none, some (.int x13)] [.int x16, .int x12] := by
            intro x16 h17 hf
            rw [e110] at hf
            refine s_iadd C dX12_count_110 ?_
            refine s_istore_n C dX12_count_111 (by decide) (nc_i rfl) (lv' := [some (rB (xD X).1 o), some (.int a1), some (.int (x12 + x16)), some (.int x13)]) rfl ?_
            refine s_iinc C dX12_count_112 (v := (x13 + 1)) rfl rfl (by decide) (nc_i rfl) (lv' := [some (rB (xD X).1 o), some (.int a1), some (.int (x12 + x16)), some (.int (x13 + 1))]) rfl ?_
            refine s_goto (tgt := 67) C dX12_count_115 (by decide) ?_
            exact ih67 _ _ _ hf
          refine s_icmp_ne (tgt := 97) C dX12_count_78 (by decide) hf (fun hf => ?_) (fun hf => ?_)
          · refine s_aload_n C dX12_count_97 rfl ?_
            refine s_iload_n C dX12_count_98 rfl ?_
            refine s_callV (rvf := fun x => some (.int x)) (st := [.int x12]) (fr := 3) (lo := 64) (mc := 0) (ms := 0) C [12] wc_X12_isOut wml_X12_255 wim_X12_isOut wsl_12_X12_isOut dX12_count_99 (As := [.inl x13]) rfl hf (fun x h' hF => c_X12_isOut _ _ _ _ _ (x, h') hF) rfl (Nat.le_of_ble_eq_true rfl) (room_ok hX (Nat.le_of_ble_eq_true rfl) (Nat.le_of_ble_eq_true rfl)) (cell_ok hX (Nat.le_of_ble_eq_true rfl) (Nat.le_of_ble_eq_true rfl)) (fun v19 h18 hf => ?_)
            refine s_if_eq (tgt := 109) C dX12_count_102 (by decide) hf (fun hf => ?_) (fun hf => ?_)
            · refine s_iconst C dX12_count_109 (v := (0 : Int32)) (by decide) ?_
              refine s_weak (lv' := [some (rB (xD X).1 o), some (.int a1), none, some (.int x13)]) ⟨rfl, ⟨rfl, ⟨rfl, trivial⟩⟩⟩ ?_
              exact k110 _ _ hf
            · refine s_iconst C dX12_count_105 (v := (1 : Int32)) (by decide) ?_
              refine s_goto (tgt := 110) C dX12_count_106 (by decide) ?_
              refine s_weak (lv' := [some (rB (xD X).1 o), some (.int a1), none, some (.int x13)]) ⟨rfl, ⟨rfl, ⟨rfl, trivial⟩⟩⟩ ?_
              exact k110 _ _ hf
          · refine s_aload_n C dX12_count_81 rfl ?_
            refine s_iload_n C dX12_count_82 rfl ?_
            refine s_callV (rvf := fun x => some (.int x)) (st := [.int x12]) (fr := 2) (lo := 43) (mc := 0) (ms := 0) C [12] wc_X12_isBox wml_X12_224 wim_X12_isBox wsl_12_X12_isBox dX12_count_83 (As := [.inl x13]) rfl hf (fun x h' hF => c_X12_isBox _ _ _ _ _ (x, h') hF) rfl (Nat.le_of_ble_eq_true rfl) (room_ok hX (Nat.le_of_ble_eq_true rfl) (Nat.le_of_ble_eq_true rfl)) (cell_ok hX (Nat.le_of_ble_eq_true rfl) (Nat.le_of_ble_eq_true rfl)) (fun v21 h20 hf => ?_)
            refine s_if_eq (tgt := 93) C dX12_count_86 (by decide) hf (fun hf => ?_) (fun hf => ?_)
            · refine s_iconst C dX12_count_93 (v := (0 : Int32)) (by decide) ?_
              refine s_goto (tgt := 110) C dX12_count_94 (by decide) ?_
              refine s_weak (lv' := [some (rB (xD X).1 o), some (.int a1), none, some (.int x13)]) ⟨rfl, ⟨rfl, ⟨rfl, trivial⟩⟩⟩ ?_
              exact k110 _ _ hf
            · refine s_iconst C dX12_count_89 (v := (1 : Int32)) (by decide) ?_
              refine s_goto (tgt := 110) C dX12_count_90 (by decide) ?_
              refine s_weak (lv' := [some (rB (xD X).1 o), some (.int a1), none, some (.int x13)]) ⟨rfl, ⟨rfl, ⟨rfl, trivial⟩⟩⟩ ?_
              exact k110 _ _ hf
    exact k67 lpN _ _ _ hf
  refine s_ite hf (fun e hf => ?_) (fun n3 hf => ?_)
  · refine s_tsw1 (tgt := 120) C dX12_count_3 e (by decide) (by decide) rfl (by decide) ?_
    refine s_iconst C dX12_count_120 (v := (0 : Int32)) (by decide) ?_
    refine s_istore_n C dX12_count_121 (by decide) (nc_i rfl) (lv' := [some (rB (xD X).1 o), some (.int a1), some (.int (0 : Int32)), some (.int (0 : Int32))]) rfl ?_
    refine s_lp2 hf (fun G122 z122 q122 hf => ?_)
    have k122 : ∀ (n : Nat) (x22 : Int32) (x23 : Int32), G122 n x22 x23 = some r → WW X h 0 0 122 [some (rB (xD X).1 o), some (.int a1), some (.int x22), some (.int x23)] [] := by
      intro n
      induction n with
      | zero =>
        intro x22 x23 hf
        rw [z122] at hf
        cases hf
      | succ n ih122 =>
        intro x22 x23 hf
        have hf := (q122 n x22 x23).symm.trans hf
        refine s_iload_n C dX12_count_122 rfl ?_
        refine s_aload_n C dX12_count_123 rfl ?_
        refine s_getI C fl_X12_214 dX12_count_124 hf (fun v24 hf => ?_)
        refine s_icmp_ge (tgt := 169) C dX12_count_127 (by decide) hf (fun hf => ?_) (fun hf => ?_)
        · refine s_iload_n C dX12_count_169 rfl ?_
          exact s_ireturn C E dX12_count_170 hf (Nat.le_of_ble_eq_true rfl) (Nat.le_of_ble_eq_true rfl)
        · refine s_iload_n C dX12_count_130 rfl ?_
          refine s_aload_n C dX12_count_131 rfl ?_
          refine s_getR C fl_X12_13 dX12_count_132 hf (fun v25 hf => ?_)
          refine s_iload_n C dX12_count_135 rfl ?_
          refine s_iaload C dX12_count_136 hf (fun v26 hf => ?_)
          refine s_bipush C dX12_count_137 (v := (7 : Int32)) (by decide) ?_
          refine s_jn hf (fun j161 e161 hf => ?_)
          have k161 : ∀ (x27 : Int32), j161 x27 = some r → WW X h 0 0 161 [some (rB (xD X).1 o), some (.int a1), none, some (.int x23)] [.int x27, .int x22] := by
            intro x27 hf
            rw [e161] at hf
            refine s_iadd C dX12_count_161 ?_
            refine s_istore_n C dX12_count_162 (by decide) (nc_i rfl) (lv' := [some (rB (xD X).1 o), some (.int a1), some (.int (x22 + x27)), some (.int x23)]) rfl ?_
            refine s_iinc C dX12_count_163 (v := (x23 + 1)) rfl rfl (by decide) (nc_i rfl) (lv' := [some (rB (xD X).1 o), some (.int a1), some (.int (x22 + x27)), some (.int (x23 + 1))]) rfl ?_
            refine s_goto (tgt := 122) C dX12_count_166 (by decide) ?_
            exact ih122 _ _ hf
          refine s_jn hf (fun j160 e160 hf => ?_)
          have k160 : j160  = some r → WW X h 0 0 160 [some (rB (xD X).1 o), some (.int a1), none, some (.int x23)] [.int x22] := by
            intro  hf
            rw [e160] at hf
            refine s_iconst C dX12_count_160 (v := (0 : Int32)) (by decide) ?_
            exact k161 _ hf
          refine s_icmp_ne (tgt := 160) C dX12_count_139 (by decide) hf (fun hf => ?_) (fun hf => ?_)
          · refine s_weak (lv' := [some (rB (xD X).1 o), some (.int a1), none, some (.int x23)]) ⟨rfl, ⟨rfl, ⟨rfl, trivial⟩⟩⟩ ?_
            exact k160 hf
          · refine s_iload_n C dX12_count_142 rfl ?_
            refine s_iconst C dX12_count_143 (v := (3 : Int32)) (by decide) ?_
            refine s_jn hf (fun j156 e156 hf => ?_)
            have k156 : j156  = some r → WW X h 0 0 156 [some (rB (xD X).1 o), some (.int a1), none, some (.int x23)] [.int x22] := by
              intro  hf
              rw [e156] at hf
              refine s_iconst C dX12_count_156 (v := (1 : Int32)) (by decide) ?_
              refine s_goto (tgt := 161) C dX12_count_157 (by decide) ?_
              exact k161 _ hf
            refine s_icmp_eq (tgt := 156) C dX12_count_144 (by decide) hf (fun hf => ?_) (fun hf => ?_)
            · refine s_weak (lv' := [some (rB (xD X).1 o), some (.int a1), none, some (.int x23)]) ⟨rfl, ⟨rfl, ⟨rfl, trivial⟩⟩⟩ ?_
              exact k156 hf
            · refine s_aload_n C dX12_count_147 rfl ?_
              refine s_getR C fl_X12_22 dX12_count_148 hf (fun v28 hf => ?_)
              refine s_iload_n C dX12_count_151 rfl ?_
              refine s_iaload C dX12_count_152 hf (fun v29 hf => ?_)
              refine s_if_ge (tgt := 160) C dX12_count_153 (by decide) hf (fun hf => ?_) (fun hf => ?_)
              · refine s_weak (lv' := [some (rB (xD X).1 o), some (.int a1), none, some (.int x23)]) ⟨rfl, ⟨rfl, ⟨rfl, trivial⟩⟩⟩ ?_
                exact k160 hf
              · refine s_weak (lv' := [some (rB (xD X).1 o), some (.int a1), none, some (.int x23)]) ⟨rfl, ⟨rfl, ⟨rfl, trivial⟩⟩⟩ ?_
                exact k156 hf
    exact k122 lpN _ _ hf
  refine s_ite hf (fun e hf => ?_) (fun n4 hf => ?_)
  · refine s_tsw1 (tgt := 120) C dX12_count_3 e (by decide) (by decide) rfl (by decide) ?_
    refine s_iconst C dX12_count_120 (v := (0 : Int32)) (by decide) ?_
    refine s_istore_n C dX12_count_121 (by decide) (nc_i rfl) (lv' := [some (rB (xD X).1 o), some (.int a1), some (.int (0 : Int32)), some (.int (0 : Int32))]) rfl ?_
    refine s_lp2 hf (fun G122 z122 q122 hf => ?_)
    have k122 : ∀ (n : Nat) (x30 : Int32) (x31 : Int32), G122 n x30 x31 = some r → WW X h 0 0 122 [some (rB (xD X).1 o), some (.int a1), some (.int x30), some (.int x31)] [] := by
      intro n
      induction n with
      | zero =>
        intro x30 x31 hf
        rw [z122] at hf
        cases hf
      | succ n ih122 =>
        intro x30 x31 hf
        have hf := (q122 n x30 x31).symm.trans hf
        refine s_iload_n C dX12_count_122 rfl ?_
        refine s_aload_n C dX12_count_123 rfl ?_
        refine s_getI C fl_X12_214 dX12_count_124 hf (fun v32 hf => ?_)
        refine s_icmp_ge (tgt := 169) C dX12_count_127 (by decide) hf (fun hf => ?_) (fun hf => ?_)
        · refine s_iload_n C dX12_count_169 rfl ?_
          exact s_ireturn C E dX12_count_170 hf (Nat.le_of_ble_eq_true rfl) (Nat.le_of_ble_eq_true rfl)
        · refine s_iload_n C dX12_count_130 rfl ?_
          refine s_aload_n C dX12_count_131 rfl ?_
          refine s_getR C fl_X12_13 dX12_count_132 hf (fun v33 hf => ?_)
          refine s_iload_n C dX12_count_135 rfl ?_
          refine s_iaload C dX12_count_136 hf (fun v34 hf => ?_)
          refine s_bipush C dX12_count_137 (v := (7 : Int32)) (by decide) ?_
          refine s_jn hf (fun j161 e161 hf => ?_)
          have k161 : ∀ (x35 : Int32), j161 x35 = some r → WW X h 0 0 161 [some (rB (xD X).1 o), some (.int a1), none, some (.int x31)] [.int x35, .int x30] := by
            intro x35 hf
            rw [e161] at hf
            refine s_iadd C dX12_count_161 ?_
            refine s_istore_n C dX12_count_162 (by decide) (nc_i rfl) (lv' := [some (rB (xD X).1 o), some (.int a1), some (.int (x30 + x35)), some (.int x31)]) rfl ?_
            refine s_iinc C dX12_count_163 (v := (x31 + 1)) rfl rfl (by decide) (nc_i rfl) (lv' := [some (rB (xD X).1 o), some (.int a1), some (.int (x30 + x35)), some (.int (x31 + 1))]) rfl ?_
            refine s_goto (tgt := 122) C dX12_count_166 (by decide) ?_
            exact ih122 _ _ hf
          refine s_jn hf (fun j160 e160 hf => ?_)
          have k160 : j160  = some r → WW X h 0 0 160 [some (rB (xD X).1 o), some (.int a1), none, some (.int x31)] [.int x30] := by
            intro  hf
            rw [e160] at hf
            refine s_iconst C dX12_count_160 (v := (0 : Int32)) (by decide) ?_
            exact k161 _ hf
          refine s_icmp_ne (tgt := 160) C dX12_count_139 (by decide) hf (fun hf => ?_) (fun hf => ?_)
          · refine s_weak (lv' := [some (rB (xD X).1 o), some (.int a1), none, some (.int x31)]) ⟨rfl, ⟨rfl, ⟨rfl, trivial⟩⟩⟩ ?_
            exact k160 hf
          · refine s_iload_n C dX12_count_142 rfl ?_
            refine s_iconst C dX12_count_143 (v := (3 : Int32)) (by decide) ?_
            refine s_jn hf (fun j156 e156 hf => ?_)
            have k156 : j156  = some r → WW X h 0 0 156 [some (rB (xD X).1 o), some (.int a1), none, some (.int x31)] [.int x30] := by
              intro  hf
              rw [e156] at hf
              refine s_iconst C dX12_count_156 (v := (1 : Int32)) (by decide) ?_
              refine s_goto (tgt := 161) C dX12_count_157 (by decide) ?_
              exact k161 _ hf
            refine s_icmp_eq (tgt := 156) C dX12_count_144 (by decide) hf (fun hf => ?_) (fun hf => ?_)
            · refine s_weak (lv' := [some (rB (xD X).1 o), some (.int a1), none, some (.int x31)]) ⟨rfl, ⟨rfl, ⟨rfl, trivial⟩⟩⟩ ?_
              exact k156 hf
            · refine s_aload_n C dX12_count_147 rfl ?_
              refine s_getR C fl_X12_22 dX12_count_148 hf (fun v36 hf => ?_)
              refine s_iload_n C dX12_count_151 rfl ?_
              refine s_iaload C dX12_count_152 hf (fun v37 hf => ?_)
              refine s_if_ge (tgt := 160) C dX12_count_153 (by decide) hf (fun hf => ?_) (fun hf => ?_)
              · refine s_weak (lv' := [some (rB (xD X).1 o), some (.int a1), none, some (.int x31)]) ⟨rfl, ⟨rfl, ⟨rfl, trivial⟩⟩⟩ ?_
                exact k160 hf
              · refine s_weak (lv' := [some (rB (xD X).1 o), some (.int a1), none, some (.int x31)]) ⟨rfl, ⟨rfl, ⟨rfl, trivial⟩⟩⟩ ?_
                exact k156 hf
    exact k122 lpN _ _ hf
  refine s_ite hf (fun e hf => ?_) (fun n5 hf => ?_)
  · refine s_tsw1 (tgt := 171) C dX12_count_3 e (by decide) (by decide) rfl (by decide) ?_
    refine s_aload_n C dX12_count_171 rfl ?_
    refine s_getI C fl_X12_252 dX12_count_172 hf (fun v38 hf => ?_)
    exact s_ireturn C E dX12_count_175 hf (Nat.le_of_ble_eq_true rfl) (Nat.le_of_ble_eq_true rfl)
  refine s_ite hf (fun e hf => ?_) (fun n6 hf => ?_)
  · refine s_tsw1 (tgt := 176) C dX12_count_3 e (by decide) (by decide) rfl (by decide) ?_
    refine s_aload_n C dX12_count_176 rfl ?_
    refine s_getI C fl_X12_358 dX12_count_177 hf (fun v39 hf => ?_)
    exact s_ireturn C E dX12_count_180 hf (Nat.le_of_ble_eq_true rfl) (Nat.le_of_ble_eq_true rfl)
  refine s_ite hf (fun e hf => ?_) (fun n7 hf => ?_)
  · refine s_tsw1 (tgt := 181) C dX12_count_3 e (by decide) (by decide) rfl (by decide) ?_
    refine s_aload_n C dX12_count_181 rfl ?_
    refine s_getI C fl_X12_327 dX12_count_182 hf (fun v40 hf => ?_)
    exact s_ireturn C E dX12_count_185 hf (Nat.le_of_ble_eq_true rfl) (Nat.le_of_ble_eq_true rfl)
  refine s_ite hf (fun e hf => ?_) (fun n8 hf => ?_)
  · refine s_tsw1 (tgt := 186) C dX12_count_3 e (by decide) (by decide) rfl (by decide) ?_
    refine s_aload_n C dX12_count_186 rfl ?_
    refine s_getI C fl_X12_203 dX12_count_187 hf (fun v41 hf => ?_)
    exact s_ireturn C E dX12_count_190 hf (Nat.le_of_ble_eq_true rfl) (Nat.le_of_ble_eq_true rfl)
  refine s_ite hf (fun e hf => ?_) (fun n9 hf => ?_)
  · refine s_tsw1 (tgt := 191) C dX12_count_3 e (by decide) (by decide) rfl (by decide) ?_
    refine s_aload_n C dX12_count_191 rfl ?_
    refine s_getI C fl_X12_233 dX12_count_192 hf (fun v42 hf => ?_)
    exact s_ireturn C E dX12_count_195 hf (Nat.le_of_ble_eq_true rfl) (Nat.le_of_ble_eq_true rfl)
  refine s_ite hf (fun e hf => ?_) (fun n10 hf => ?_)
  · refine s_tsw1 (tgt := 196) C dX12_count_3 e (by decide) (by decide) rfl (by decide) ?_
    refine s_aload_n C dX12_count_196 rfl ?_
    refine s_getI C fl_X12_586 dX12_count_197 hf (fun v43 hf => ?_)
    exact s_ireturn C E dX12_count_200 hf (Nat.le_of_ble_eq_true rfl) (Nat.le_of_ble_eq_true rfl)
  refine s_tswD (tgt := 201) C dX12_count_3 (by have n0x := n32 (i := 0) n0 rfl; have n1x := n32 (i := 1) n1 rfl; have n2x := n32 (i := 2) n2 rfl; have n3x := n32 (i := 3) n3 rfl; have n4x := n32 (i := 4) n4 rfl; have n5x := n32 (i := 5) n5 rfl; have n6x := n32 (i := 6) n6 rfl; have n7x := n32 (i := 7) n7 rfl; have n8x := n32 (i := 8) n8 rfl; have n9x := n32 (i := 9) n9 rfl; have n10x := n32 (i := 10) n10 rfl; omega) (by decide) ?_
  refine s_iconst C dX12_count_201 (v := (-1 : Int32)) (by decide) ?_
  exact s_ireturn C E dX12_count_202 hf (Nat.le_of_ble_eq_true rfl) (Nat.le_of_ble_eq_true rfl)
/-- HillBoxesModel.days(I)I -/
noncomputable def f_X12_days (o : Option Nat) (a1 : Int32) (h : AH) : Option (Int32 × AH) :=
  cl (f_X12_in a1 (1 : Int32) (100 : Int32) h) fun v2 h1 =>
  jn (
    some ((-1 : Int32), h1)) fun j22 =>
  if v2 = 0 then
    j22
  else
    fI h1 [12] o 1 fun v3 =>
    if (v3 + a1) ≤ (999 : Int32) then
      fI h1 [12] o 1 fun v4 =>
      pI h1 [12] o 1 (v4 + a1) fun h5 =>
      fI h5 [12] o 1 fun v6 =>
      some (v6, h5)
    else
      j22
set_option maxRecDepth 100000 in
set_option maxHeartbeats 4000000 in
theorem c_X12_days (l : Launch) (D : DT) (o : Option Nat) (a1 : Int32) (h : AH) (r : Int32 × AH) (hf : f_X12_days o a1 h = some r) : CM l D yX12_days cX12_days 2 (some .int) 1 22 0 0 [.inr (.inr o), .inl a1] h (some (.int r.1)) r.2 := by
  refine CM.of (by decide) (Nat.le_of_ble_eq_true rfl) (fun X hl C hD hX hnm E => ?_)
  subst hl
  subst hD
  have C : CX X RX12 cX12_days 2 := C
  show WW X h 0 0 0 [some (rB (xD X).1 o), some (.int a1)] []
  unfold f_X12_days at hf
  refine s_iload_n C dX12_days_0 rfl ?_
  refine s_iconst C dX12_days_1 (v := (1 : Int32)) (by decide) ?_
  refine s_bipush C dX12_days_2 (v := (100 : Int32)) (by decide) ?_
  refine s_callS (rvf := fun x => some (.int x)) (st := []) (fr := 0) (lo := 0) (mc := 0) (ms := 0) C wc_X12_in wml_X12_195 wst_X12_in dX12_days_4 (As := [.inl a1, .inl (1 : Int32), .inl (100 : Int32)]) rfl hf (fun x h' hF => c_X12_in _ _ _ _ _ _ (x, h') hF) rfl (Nat.le_of_ble_eq_true rfl) (room_ok hX (Nat.le_of_ble_eq_true rfl) (Nat.le_of_ble_eq_true rfl)) (cell_ok hX (Nat.le_of_ble_eq_true rfl) (Nat.le_of_ble_eq_true rfl)) (fun v2 h1 hf => ?_)
  refine s_jn hf (fun j22 e22 hf => ?_)
  have k22 : j22  = some r → WW X h1 0 0 22 [none, none] [] := by
    intro  hf
    rw [e22] at hf
    refine s_iconst C dX12_days_22 (v := (-1 : Int32)) (by decide) ?_
    exact s_ireturn C E dX12_days_23 hf (Nat.le_of_ble_eq_true rfl) (Nat.le_of_ble_eq_true rfl)
  refine s_if_eq (tgt := 22) C dX12_days_7 (by decide) hf (fun hf => ?_) (fun hf => ?_)
  · refine s_weak (lv' := [none, none]) trivial ?_
    exact k22 hf
  · refine s_aload_n C dX12_days_10 rfl ?_
    refine s_getI C fl_X12_203 dX12_days_11 hf (fun v3 hf => ?_)
    refine s_iload_n C dX12_days_14 rfl ?_
    refine s_iadd C dX12_days_15 ?_
    refine s_sipush C dX12_days_16 (v := (999 : Int32)) (by decide) ?_
    refine s_icmp_le (tgt := 24) C dX12_days_19 (by decide) hf (fun hf => ?_) (fun hf => ?_)
    · refine s_aload_n C dX12_days_24 rfl ?_
      refine s_dup C dX12_days_25 c1_r ?_
      refine s_getI C fl_X12_203 dX12_days_26 hf (fun v4 hf => ?_)
      refine s_iload_n C dX12_days_29 rfl ?_
      refine s_iadd C dX12_days_30 ?_
      refine s_putI C fl_X12_203 (by decide) dX12_days_31 hf (fun h5 hf => ?_)
      refine s_aload_n C dX12_days_34 rfl ?_
      refine s_getI C fl_X12_203 dX12_days_35 hf (fun v6 hf => ?_)
      exact s_ireturn C E dX12_days_38 hf (Nat.le_of_ble_eq_true rfl) (Nat.le_of_ble_eq_true rfl)
    · refine s_weak (lv' := [none, none]) trivial ?_
      exact k22 hf
/-- HillBoxesModel.down(I)I -/
noncomputable def f_X12_down (o : Option Nat) (a1 : Int32) (h : AH) : Option (Int32 × AH) :=
  rO h [12] o <| cl (f_X12_isBox o a1 h) fun v2 h1 =>
  if v2 = 0 then
    some ((-1 : Int32), h1)
  else
    fR h1 [12] o 7 fun v3 =>
    aI h1 20 v3 a1 fun v4 =>
    if v4 < 0 then
      fR h1 [12] o 7 fun v5 =>
      fI h1 [12] o 1 fun v6 =>
      bI h1 20 v5 a1 v6 fun h7 =>
      some ((1 : Int32), h7)
    else
      some ((-2 : Int32), h1)
set_option maxRecDepth 100000 in
set_option maxHeartbeats 4000000 in
theorem c_X12_down (l : Launch) (D : DT) (o : Option Nat) (a1 : Int32) (h : AH) (r : Int32 × AH) (hf : f_X12_down o a1 h = some r) : CM l D yX12_down cX12_down 2 (some .int) 3 64 0 0 [.inr (.inr o), .inl a1] h (some (.int r.1)) r.2 := by
  refine CM.of (by decide) (Nat.le_of_ble_eq_true rfl) (fun X hl C hD hX hnm E => ?_)
  subst hl
  subst hD
  have C : CX X RX12 cX12_down 2 := C
  show WW X h 0 0 0 [some (rB (xD X).1 o), some (.int a1)] []
  unfold f_X12_down at hf
  refine s_aload_n C dX12_down_0 rfl ?_
  refine s_iload_n C dX12_down_1 rfl ?_
  refine s_callV (rvf := fun x => some (.int x)) (st := []) (fr := 2) (lo := 43) (mc := 0) (ms := 0) C [12] wc_X12_isBox wml_X12_224 wim_X12_isBox wsl_12_X12_isBox dX12_down_2 (As := [.inl a1]) rfl hf (fun x h' hF => c_X12_isBox _ _ _ _ _ (x, h') hF) rfl (Nat.le_of_ble_eq_true rfl) (room_ok hX (Nat.le_of_ble_eq_true rfl) (Nat.le_of_ble_eq_true rfl)) (cell_ok hX (Nat.le_of_ble_eq_true rfl) (Nat.le_of_ble_eq_true rfl)) (fun v2 h1 hf => ?_)
  refine s_if_ne (tgt := 10) C dX12_down_5 (by decide) hf (fun hf => ?_) (fun hf => ?_)
  · refine s_aload_n C dX12_down_10 rfl ?_
    refine s_getR C fl_X12_22 dX12_down_11 hf (fun v3 hf => ?_)
    refine s_iload_n C dX12_down_14 rfl ?_
    refine s_iaload C dX12_down_15 hf (fun v4 hf => ?_)
    refine s_if_lt (tgt := 22) C dX12_down_16 (by decide) hf (fun hf => ?_) (fun hf => ?_)
    · refine s_aload_n C dX12_down_22 rfl ?_
      refine s_getR C fl_X12_22 dX12_down_23 hf (fun v5 hf => ?_)
      refine s_iload_n C dX12_down_26 rfl ?_
      refine s_aload_n C dX12_down_27 rfl ?_
      refine s_getI C fl_X12_203 dX12_down_28 hf (fun v6 hf => ?_)
      refine s_iastore C dX12_down_31 hf (fun h7 hf => ?_)
      refine s_iconst C dX12_down_32 (v := (1 : Int32)) (by decide) ?_
      exact s_ireturn C E dX12_down_33 hf (Nat.le_of_ble_eq_true rfl) (Nat.le_of_ble_eq_true rfl)
    · refine s_bipush C dX12_down_19 (v := (-2 : Int32)) (by decide) ?_
      exact s_ireturn C E dX12_down_21 hf (Nat.le_of_ble_eq_true rfl) (Nat.le_of_ble_eq_true rfl)
  · refine s_iconst C dX12_down_8 (v := (-1 : Int32)) (by decide) ?_
    exact s_ireturn C E dX12_down_9 hf (Nat.le_of_ble_eq_true rfl) (Nat.le_of_ble_eq_true rfl)
/-- HillBoxesModel.isShelf(I)Z -/
noncomputable def f_X12_isShelf (a0 : Int32) (h : AH) : Option (Int32 × AH) :=
  cl (f_X12_in a0 (0 : Int32) (5 : Int32) h) fun v2 h1 =>
  rz v2 h1
set_option maxRecDepth 100000 in
set_option maxHeartbeats 4000000 in
theorem c_X12_isShelf (l : Launch) (D : DT) (a0 : Int32) (h : AH) (r : Int32 × AH) (hf : f_X12_isShelf a0 h = some r) : CM l D yX12_isShelf cX12_isShelf 1 (some .boolean) 1 22 0 0 [.inl a0] h (some (.int r.1)) r.2 := by
  refine CM.of (by decide) (Nat.le_of_ble_eq_true rfl) (fun X hl C hD hX hnm E => ?_)
  subst hl
  subst hD
  have C : CX X RX12 cX12_isShelf 1 := C
  show WW X h 0 0 0 [some (.int a0)] []
  unfold f_X12_isShelf at hf
  refine s_iload_n C dX12_isShelf_0 rfl ?_
  refine s_iconst C dX12_isShelf_1 (v := (0 : Int32)) (by decide) ?_
  refine s_iconst C dX12_isShelf_2 (v := (5 : Int32)) (by decide) ?_
  refine s_callS (rvf := fun x => some (.int x)) (st := []) (fr := 0) (lo := 0) (mc := 0) (ms := 0) C wc_X12_in wml_X12_195 wst_X12_in dX12_isShelf_3 (As := [.inl a0, .inl (0 : Int32), .inl (5 : Int32)]) rfl hf (fun x h' hF => c_X12_in _ _ _ _ _ _ (x, h') hF) rfl (Nat.le_of_ble_eq_true rfl) (room_ok hX (Nat.le_of_ble_eq_true rfl) (Nat.le_of_ble_eq_true rfl)) (cell_ok hX (Nat.le_of_ble_eq_true rfl) (Nat.le_of_ble_eq_true rfl)) (fun v2 h1 hf => ?_)
  exact s_zreturn C E dX12_isShelf_6 hf (Nat.le_of_ble_eq_true rfl) (Nat.le_of_ble_eq_true rfl)
/-- HillBoxesModel.whyNoPlace(II)I -/
noncomputable def f_X12_whyNoPlace (o : Option Nat) (a1 : Int32) (a2 : Int32) (h : AH) : Option (Int32 × AH) :=
  cl (f_X12_isShelf a1 h) fun v2 h1 =>
  if v2 = 0 then
    some ((-1 : Int32), h1)
  else
    fR h1 [12] o 86 fun v3 =>
    aI h1 20 v3 a1 fun v4 =>
    if v4 = (-1 : Int32) then
      some ((-11 : Int32), h1)
    else
      fR h1 [12] o 86 fun v5 =>
      aI h1 20 v5 a1 fun v6 =>
      if v6 < 0 then
        fR h1 [12] o 87 fun v7 =>
        aI h1 20 v7 a1 fun v8 =>
        cl (f_X12_in a2 (0 : Int32) (v8 - (1 : Int32)) h1) fun v10 h9 =>
        jn (fun (x11 : Int32) =>
          some (x11, h9)) fun j56 =>
        if v10 = 0 then
          j56 (-13 : Int32)
        else
          j56 (0 : Int32)
      else
        some ((-12 : Int32), h1)
set_option maxRecDepth 100000 in
set_option maxHeartbeats 4000000 in
theorem c_X12_whyNoPlace (l : Launch) (D : DT) (o : Option Nat) (a1 : Int32) (a2 : Int32) (h : AH) (r : Int32 × AH) (hf : f_X12_whyNoPlace o a1 a2 h = some r) : CM l D yX12_whyNoPlace cX12_whyNoPlace 3 (some .int) 2 42 0 0 [.inr (.inr o), .inl a1, .inl a2] h (some (.int r.1)) r.2 := by
  refine CM.of (by decide) (Nat.le_of_ble_eq_true rfl) (fun X hl C hD hX hnm E => ?_)
  subst hl
  subst hD
  have C : CX X RX12 cX12_whyNoPlace 3 := C
  show WW X h 0 0 0 [some (rB (xD X).1 o), some (.int a1), some (.int a2)] []
  unfold f_X12_whyNoPlace at hf
  refine s_iload_n C dX12_whyNoPlace_0 rfl ?_
  refine s_callS (rvf := fun x => some (.int x)) (st := []) (fr := 1) (lo := 22) (mc := 0) (ms := 0) C wc_X12_isShelf wml_X12_276 wst_X12_isShelf dX12_whyNoPlace_1 (As := [.inl a1]) rfl hf (fun x h' hF => c_X12_isShelf _ _ _ _ (x, h') hF) rfl (Nat.le_of_ble_eq_true rfl) (room_ok hX (Nat.le_of_ble_eq_true rfl) (Nat.le_of_ble_eq_true rfl)) (cell_ok hX (Nat.le_of_ble_eq_true rfl) (Nat.le_of_ble_eq_true rfl)) (fun v2 h1 hf => ?_)
  refine s_if_ne (tgt := 9) C dX12_whyNoPlace_4 (by decide) hf (fun hf => ?_) (fun hf => ?_)
  · refine s_aload_n C dX12_whyNoPlace_9 rfl ?_
    refine s_getR C fl_X12_180 dX12_whyNoPlace_10 hf (fun v3 hf => ?_)
    refine s_iload_n C dX12_whyNoPlace_13 rfl ?_
    refine s_iaload C dX12_whyNoPlace_14 hf (fun v4 hf => ?_)
    refine s_iconst C dX12_whyNoPlace_15 (v := (-1 : Int32)) (by decide) ?_
    refine s_icmp_ne (tgt := 22) C dX12_whyNoPlace_16 (by decide) hf (fun hf => ?_) (fun hf => ?_)
    · refine s_aload_n C dX12_whyNoPlace_22 rfl ?_
      refine s_getR C fl_X12_180 dX12_whyNoPlace_23 hf (fun v5 hf => ?_)
      refine s_iload_n C dX12_whyNoPlace_26 rfl ?_
      refine s_iaload C dX12_whyNoPlace_27 hf (fun v6 hf => ?_)
      refine s_if_lt (tgt := 34) C dX12_whyNoPlace_28 (by decide) hf (fun hf => ?_) (fun hf => ?_)
      · refine s_iload_n C dX12_whyNoPlace_34 rfl ?_
        refine s_iconst C dX12_whyNoPlace_35 (v := (0 : Int32)) (by decide) ?_
        refine s_aload_n C dX12_whyNoPlace_36 rfl ?_
        refine s_getR C fl_X12_183 dX12_whyNoPlace_37 hf (fun v7 hf => ?_)
        refine s_iload_n C dX12_whyNoPlace_40 rfl ?_
        refine s_iaload C dX12_whyNoPlace_41 hf (fun v8 hf => ?_)
        refine s_iconst C dX12_whyNoPlace_42 (v := (1 : Int32)) (by decide) ?_
        refine s_isub C dX12_whyNoPlace_43 ?_
        refine s_callS (rvf := fun x => some (.int x)) (st := []) (fr := 0) (lo := 0) (mc := 0) (ms := 0) C wc_X12_in wml_X12_195 wst_X12_in dX12_whyNoPlace_44 (As := [.inl a2, .inl (0 : Int32), .inl (v8 - (1 : Int32))]) rfl hf (fun x h' hF => c_X12_in _ _ _ _ _ _ (x, h') hF) rfl (Nat.le_of_ble_eq_true rfl) (room_ok hX (Nat.le_of_ble_eq_true rfl) (Nat.le_of_ble_eq_true rfl)) (cell_ok hX (Nat.le_of_ble_eq_true rfl) (Nat.le_of_ble_eq_true rfl)) (fun v10 h9 hf => ?_)
        refine s_jn hf (fun j56 e56 hf => ?_)
        have k56 : ∀ (x11 : Int32), j56 x11 = some r → WW X h9 0 0 56 [none, none, none] [.int x11] := by
          intro x11 hf
          rw [e56] at hf
          exact s_ireturn C E dX12_whyNoPlace_56 hf (Nat.le_of_ble_eq_true rfl) (Nat.le_of_ble_eq_true rfl)
        refine s_if_eq (tgt := 54) C dX12_whyNoPlace_47 (by decide) hf (fun hf => ?_) (fun hf => ?_)
        · refine s_bipush C dX12_whyNoPlace_54 (v := (-13 : Int32)) (by decide) ?_
          refine s_weak (lv' := [none, none, none]) trivial ?_
          exact k56 _ hf
        · refine s_iconst C dX12_whyNoPlace_50 (v := (0 : Int32)) (by decide) ?_
          refine s_goto (tgt := 56) C dX12_whyNoPlace_51 (by decide) ?_
          refine s_weak (lv' := [none, none, none]) trivial ?_
          exact k56 _ hf
      · refine s_bipush C dX12_whyNoPlace_31 (v := (-12 : Int32)) (by decide) ?_
        exact s_ireturn C E dX12_whyNoPlace_33 hf (Nat.le_of_ble_eq_true rfl) (Nat.le_of_ble_eq_true rfl)
    · refine s_bipush C dX12_whyNoPlace_19 (v := (-11 : Int32)) (by decide) ?_
      exact s_ireturn C E dX12_whyNoPlace_21 hf (Nat.le_of_ble_eq_true rfl) (Nat.le_of_ble_eq_true rfl)
  · refine s_iconst C dX12_whyNoPlace_7 (v := (-1 : Int32)) (by decide) ?_
    exact s_ireturn C E dX12_whyNoPlace_8 hf (Nat.le_of_ble_eq_true rfl) (Nat.le_of_ble_eq_true rfl)
/-- HillBoxesModel.element(II)J -/
noncomputable def f_X12_element (o : Option Nat) (a1 : Int32) (a2 : Int32) (h : AH) : Option (Int64 × AH) :=
  rO h [12] o <| cl (f_X12_whyNoPlace o a1 a2 h) fun v2 h1 =>
  jn (fun (x3 : Int64) =>
    some (x3, h1)) fun j26 =>
  if 0 ≤ v2 then
    fR h1 [12] o 88 fun v4 =>
    aL h1 24 v4 (((60 : Int32) * a1) + a2) fun v5 =>
    j26 v5
  else
    j26 (-9223372036854775808 : Int64)
set_option maxRecDepth 100000 in
set_option maxHeartbeats 4000000 in
theorem c_X12_element (l : Launch) (D : DT) (o : Option Nat) (a1 : Int32) (a2 : Int32) (h : AH) (r : Int64 × AH) (hf : f_X12_element o a1 a2 h = some r) : CM l D yX12_element cX12_element 3 (some .long) 3 64 0 0 [.inr (.inr o), .inl a1, .inl a2] h (some (.long r.1)) r.2 := by
  refine CM.of (by decide) (Nat.le_of_ble_eq_true rfl) (fun X hl C hD hX hnm E => ?_)
  subst hl
  subst hD
  have C : CX X RX12 cX12_element 3 := C
  show WW X h 0 0 0 [some (rB (xD X).1 o), some (.int a1), some (.int a2)] []
  unfold f_X12_element at hf
  refine s_aload_n C dX12_element_0 rfl ?_
  refine s_iload_n C dX12_element_1 rfl ?_
  refine s_iload_n C dX12_element_2 rfl ?_
  refine s_callV (rvf := fun x => some (.int x)) (st := []) (fr := 2) (lo := 42) (mc := 0) (ms := 0) C [12] wc_X12_whyNoPlace wml_X12_622 wim_X12_whyNoPlace wsl_12_X12_whyNoPlace dX12_element_3 (As := [.inl a1, .inl a2]) rfl hf (fun x h' hF => c_X12_whyNoPlace _ _ _ _ _ _ (x, h') hF) rfl (Nat.le_of_ble_eq_true rfl) (room_ok hX (Nat.le_of_ble_eq_true rfl) (Nat.le_of_ble_eq_true rfl)) (cell_ok hX (Nat.le_of_ble_eq_true rfl) (Nat.le_of_ble_eq_true rfl)) (fun v2 h1 hf => ?_)
  refine s_jn hf (fun j26 e26 hf => ?_)
  have k26 : ∀ (x3 : Int64), j26 x3 = some r → WW X h1 0 0 26 [none, none, none] [.long x3] := by
    intro x3 hf
    rw [e26] at hf
    exact s_lreturn C E dX12_element_26 hf (Nat.le_of_ble_eq_true rfl) (Nat.le_of_ble_eq_true rfl)
  refine s_if_ge (tgt := 15) C dX12_element_6 (by decide) hf (fun hf => ?_) (fun hf => ?_)
  · refine s_aload_n C dX12_element_15 rfl ?_
    refine s_getR C fl_X12_186 dX12_element_16 hf (fun v4 hf => ?_)
    refine s_bipush C dX12_element_19 (v := (60 : Int32)) (by decide) ?_
    refine s_iload_n C dX12_element_21 rfl ?_
    refine s_imul C dX12_element_22 ?_
    refine s_iload_n C dX12_element_23 rfl ?_
    refine s_iadd C dX12_element_24 ?_
    refine s_laload C dX12_element_25 hf (fun v5 hf => ?_)
    refine s_weak (lv' := [none, none, none]) trivial ?_
    exact k26 _ hf
  · refine s_ldc2 C dX12_element_9 wk_X12_520 ?_
    refine s_goto (tgt := 26) C dX12_element_12 (by decide) ?_
    refine s_weak (lv' := [none, none, none]) trivial ?_
    exact k26 _ hf
/-- HillBoxesModel.feed(II)I -/
noncomputable def f_X12_feed (o : Option Nat) (a1 : Int32) (a2 : Int32) (h : AH) : Option (Int32 × AH) :=
  cl (f_X12_in a1 (1 : Int32) (4 : Int32) h) fun v2 h1 =>
  if v2 = 0 then
    some ((-1 : Int32), h1)
  else
    fI h1 [12] o 25 fun v3 =>
    if (v3 + a1) ≤ (160 : Int32) then
      lp (fun _ _ => none) (fun (L28 : Int32 → AH → Option (Int32 × AH)) (x4 : Int32) (h5 : AH) =>
        if a1 ≤ x4 then
          fI h5 [12] o 25 fun v6 =>
          some (v6, h5)
        else
          fR h5 [12] o 24 fun v7 =>
          fI h5 [12] o 25 fun v8 =>
          bI h5 22 v7 v8 (((a2 >>> (((8 : Int32) * x4) &&& 31)).toInt8.toInt32).toInt8.toInt32) fun h9 =>
          fI h9 [12] o 25 fun v10 =>
          pI h9 [12] o 25 (v10 + (1 : Int32)) fun h11 =>
          L28 (x4 + 1) h11) lpN (0 : Int32) h1
    else
      some ((-3 : Int32), h1)
set_option maxRecDepth 100000 in
set_option maxHeartbeats 4000000 in
theorem c_X12_feed (l : Launch) (D : DT) (o : Option Nat) (a1 : Int32) (a2 : Int32) (h : AH) (r : Int32 × AH) (hf : f_X12_feed o a1 a2 h = some r) : CM l D yX12_feed cX12_feed 4 (some .int) 1 22 0 0 [.inr (.inr o), .inl a1, .inl a2] h (some (.int r.1)) r.2 := by
  refine CM.of (by decide) (Nat.le_of_ble_eq_true rfl) (fun X hl C hD hX hnm E => ?_)
  subst hl
  subst hD
  have C : CX X RX12 cX12_feed 4 := C
  show WW X h 0 0 0 [some (rB (xD X).1 o), some (.int a1), some (.int a2), none] []
  unfold f_X12_feed at hf
  refine s_iload_n C dX12_feed_0 rfl ?_
  refine s_iconst C dX12_feed_1 (v := (1 : Int32)) (by decide) ?_
  refine s_iconst C dX12_feed_2 (v := (4 : Int32)) (by decide) ?_
  refine s_callS (rvf := fun x => some (.int x)) (st := []) (fr := 0) (lo := 0) (mc := 0) (ms := 0) C wc_X12_in wml_X12_195 wst_X12_in dX12_feed_3 (As := [.inl a1, .inl (1 : Int32), .inl (4 : Int32)]) rfl hf (fun x h' hF => c_X12_in _ _ _ _ _ _ (x, h') hF) rfl (Nat.le_of_ble_eq_true rfl) (room_ok hX (Nat.le_of_ble_eq_true rfl) (Nat.le_of_ble_eq_true rfl)) (cell_ok hX (Nat.le_of_ble_eq_true rfl) (Nat.le_of_ble_eq_true rfl)) (fun v2 h1 hf => ?_)
  refine s_if_ne (tgt := 11) C dX12_feed_6 (by decide) hf (fun hf => ?_) (fun hf => ?_)
  · refine s_aload_n C dX12_feed_11 rfl ?_
    refine s_getI C fl_X12_327 dX12_feed_12 hf (fun v3 hf => ?_)
    refine s_iload_n C dX12_feed_15 rfl ?_
    refine s_iadd C dX12_feed_16 ?_
    refine s_sipush C dX12_feed_17 (v := (160 : Int32)) (by decide) ?_
    refine s_icmp_le (tgt := 26) C dX12_feed_20 (by decide) hf (fun hf => ?_) (fun hf => ?_)
    · refine s_iconst C dX12_feed_26 (v := (0 : Int32)) (by decide) ?_
      refine s_istore_n C dX12_feed_27 (by decide) (nc_i rfl) (lv' := [some (rB (xD X).1 o), some (.int a1), some (.int a2), some (.int (0 : Int32))]) rfl ?_
      refine s_lp2 hf (fun G28 z28 q28 hf => ?_)
      have k28 : ∀ (n : Nat) (x4 : Int32) (h5 : AH), G28 n x4 h5 = some r → WW X h5 0 0 28 [some (rB (xD X).1 o), some (.int a1), some (.int a2), some (.int x4)] [] := by
        intro n
        induction n with
        | zero =>
          intro x4 h5 hf
          rw [z28] at hf
          cases hf
        | succ n ih28 =>
          intro x4 h5 hf
          have hf := (q28 n x4 h5).symm.trans hf
          refine s_iload_n C dX12_feed_28 rfl ?_
          refine s_iload_n C dX12_feed_29 rfl ?_
          refine s_icmp_ge (tgt := 65) C dX12_feed_30 (by decide) hf (fun hf => ?_) (fun hf => ?_)
          · refine s_aload_n C dX12_feed_65 rfl ?_
            refine s_getI C fl_X12_327 dX12_feed_66 hf (fun v6 hf => ?_)
            exact s_ireturn C E dX12_feed_69 hf (Nat.le_of_ble_eq_true rfl) (Nat.le_of_ble_eq_true rfl)
          · refine s_aload_n C dX12_feed_33 rfl ?_
            refine s_getR C fl_X12_66 dX12_feed_34 hf (fun v7 hf => ?_)
            refine s_aload_n C dX12_feed_37 rfl ?_
            refine s_getI C fl_X12_327 dX12_feed_38 hf (fun v8 hf => ?_)
            refine s_iload_n C dX12_feed_41 rfl ?_
            refine s_bipush C dX12_feed_42 (v := (8 : Int32)) (by decide) ?_
            refine s_iload_n C dX12_feed_44 rfl ?_
            refine s_imul C dX12_feed_45 ?_
            refine s_ishr C dX12_feed_46 ?_
            refine s_i2b C dX12_feed_47 ?_
            refine s_bastore C dX12_feed_48 hf (fun h9 hf => ?_)
            refine s_aload_n C dX12_feed_49 rfl ?_
            refine s_dup C dX12_feed_50 c1_r ?_
            refine s_getI C fl_X12_327 dX12_feed_51 hf (fun v10 hf => ?_)
            refine s_iconst C dX12_feed_54 (v := (1 : Int32)) (by decide) ?_
            refine s_iadd C dX12_feed_55 ?_
            refine s_putI C fl_X12_327 (by decide) dX12_feed_56 hf (fun h11 hf => ?_)
            refine s_iinc C dX12_feed_59 (v := (x4 + 1)) rfl rfl (by decide) (nc_i rfl) (lv' := [some (rB (xD X).1 o), some (.int a1), some (.int a2), some (.int (x4 + 1))]) rfl ?_
            refine s_goto (tgt := 28) C dX12_feed_62 (by decide) ?_
            exact ih28 _ _ hf
      exact k28 lpN _ _ hf
    · refine s_bipush C dX12_feed_23 (v := (-3 : Int32)) (by decide) ?_
      exact s_ireturn C E dX12_feed_25 hf (Nat.le_of_ble_eq_true rfl) (Nat.le_of_ble_eq_true rfl)
  · refine s_iconst C dX12_feed_9 (v := (-1 : Int32)) (by decide) ?_
    exact s_ireturn C E dX12_feed_10 hf (Nat.le_of_ble_eq_true rfl) (Nat.le_of_ble_eq_true rfl)
/-- HillBoxesModel.isCell(I)Z -/
noncomputable def f_X12_isCell (a0 : Int32) (h : AH) : Option (Int32 × AH) :=
  cl (f_X12_in a0 (0 : Int32) (59 : Int32) h) fun v2 h1 =>
  rz v2 h1
set_option maxRecDepth 100000 in
set_option maxHeartbeats 4000000 in
theorem c_X12_isCell (l : Launch) (D : DT) (a0 : Int32) (h : AH) (r : Int32 × AH) (hf : f_X12_isCell a0 h = some r) : CM l D yX12_isCell cX12_isCell 1 (some .boolean) 1 22 0 0 [.inl a0] h (some (.int r.1)) r.2 := by
  refine CM.of (by decide) (Nat.le_of_ble_eq_true rfl) (fun X hl C hD hX hnm E => ?_)
  subst hl
  subst hD
  have C : CX X RX12 cX12_isCell 1 := C
  show WW X h 0 0 0 [some (.int a0)] []
  unfold f_X12_isCell at hf
  refine s_iload_n C dX12_isCell_0 rfl ?_
  refine s_iconst C dX12_isCell_1 (v := (0 : Int32)) (by decide) ?_
  refine s_bipush C dX12_isCell_2 (v := (59 : Int32)) (by decide) ?_
  refine s_callS (rvf := fun x => some (.int x)) (st := []) (fr := 0) (lo := 0) (mc := 0) (ms := 0) C wc_X12_in wml_X12_195 wst_X12_in dX12_isCell_4 (As := [.inl a0, .inl (0 : Int32), .inl (59 : Int32)]) rfl hf (fun x h' hF => c_X12_in _ _ _ _ _ _ (x, h') hF) rfl (Nat.le_of_ble_eq_true rfl) (room_ok hX (Nat.le_of_ble_eq_true rfl) (Nat.le_of_ble_eq_true rfl)) (cell_ok hX (Nat.le_of_ble_eq_true rfl) (Nat.le_of_ble_eq_true rfl)) (fun v2 h1 hf => ?_)
  exact s_zreturn C E dX12_isCell_7 hf (Nat.le_of_ble_eq_true rfl) (Nat.le_of_ble_eq_true rfl)
/-- HillBoxesModel.finder(I)I -/
noncomputable def f_X12_finder (o : Option Nat) (a1 : Int32) (h : AH) : Option (Int32 × AH) :=
  cl (f_X12_isCell a1 h) fun v2 h1 =>
  if v2 = 0 then
    some ((-1 : Int32), h1)
  else
    fI h1 [12] o 3 fun v3 =>
    if v3 = (150 : Int32) then
      some ((-3 : Int32), h1)
    else
      rO h1 [12] o <| cl (f_X12_add o (7 : Int32) h1) fun v5 h4 =>
      fR h4 [12] o 5 fun v6 =>
      bI h4 20 v6 v5 a1 fun h7 =>
      some (v5, h7)
set_option maxRecDepth 100000 in
set_option maxHeartbeats 4000000 in
theorem c_X12_finder (l : Launch) (D : DT) (o : Option Nat) (a1 : Int32) (h : AH) (r : Int32 × AH) (hf : f_X12_finder o a1 h = some r) : CM l D yX12_finder cX12_finder 3 (some .int) 2 42 0 0 [.inr (.inr o), .inl a1] h (some (.int r.1)) r.2 := by
  refine CM.of (by decide) (Nat.le_of_ble_eq_true rfl) (fun X hl C hD hX hnm E => ?_)
  subst hl
  subst hD
  have C : CX X RX12 cX12_finder 3 := C
  show WW X h 0 0 0 [some (rB (xD X).1 o), some (.int a1), none] []
  unfold f_X12_finder at hf
  refine s_iload_n C dX12_finder_0 rfl ?_
  refine s_callS (rvf := fun x => some (.int x)) (st := []) (fr := 1) (lo := 22) (mc := 0) (ms := 0) C wc_X12_isCell wml_X12_206 wst_X12_isCell dX12_finder_1 (As := [.inl a1]) rfl hf (fun x h' hF => c_X12_isCell _ _ _ _ (x, h') hF) rfl (Nat.le_of_ble_eq_true rfl) (room_ok hX (Nat.le_of_ble_eq_true rfl) (Nat.le_of_ble_eq_true rfl)) (cell_ok hX (Nat.le_of_ble_eq_true rfl) (Nat.le_of_ble_eq_true rfl)) (fun v2 h1 hf => ?_)
  refine s_if_ne (tgt := 9) C dX12_finder_4 (by decide) hf (fun hf => ?_) (fun hf => ?_)
  · refine s_aload_n C dX12_finder_9 rfl ?_
    refine s_getI C fl_X12_214 dX12_finder_10 hf (fun v3 hf => ?_)
    refine s_sipush C dX12_finder_13 (v := (150 : Int32)) (by decide) ?_
    refine s_icmp_ne (tgt := 22) C dX12_finder_16 (by decide) hf (fun hf => ?_) (fun hf => ?_)
    · refine s_aload_n C dX12_finder_22 rfl ?_
      refine s_bipush C dX12_finder_23 (v := (7 : Int32)) (by decide) ?_
      refine s_callV (rvf := fun x => some (.int x)) (st := []) (fr := 0) (lo := 0) (mc := 0) (ms := 0) C [12] wc_X12_add wml_X12_227 wim_X12_add wsl_12_X12_add dX12_finder_25 (As := [.inl (7 : Int32)]) rfl hf (fun x h' hF => c_X12_add _ _ _ _ _ (x, h') hF) rfl (Nat.le_of_ble_eq_true rfl) (room_ok hX (Nat.le_of_ble_eq_true rfl) (Nat.le_of_ble_eq_true rfl)) (cell_ok hX (Nat.le_of_ble_eq_true rfl) (Nat.le_of_ble_eq_true rfl)) (fun v5 h4 hf => ?_)
      refine s_istore_n C dX12_finder_28 (by decide) (nc_i rfl) (lv' := [some (rB (xD X).1 o), some (.int a1), some (.int v5)]) rfl ?_
      refine s_aload_n C dX12_finder_29 rfl ?_
      refine s_getR C fl_X12_16 dX12_finder_30 hf (fun v6 hf => ?_)
      refine s_iload_n C dX12_finder_33 rfl ?_
      refine s_iload_n C dX12_finder_34 rfl ?_
      refine s_iastore C dX12_finder_35 hf (fun h7 hf => ?_)
      refine s_iload_n C dX12_finder_36 rfl ?_
      exact s_ireturn C E dX12_finder_37 hf (Nat.le_of_ble_eq_true rfl) (Nat.le_of_ble_eq_true rfl)
    · refine s_bipush C dX12_finder_19 (v := (-3 : Int32)) (by decide) ?_
      exact s_ireturn C E dX12_finder_21 hf (Nat.le_of_ble_eq_true rfl) (Nat.le_of_ble_eq_true rfl)
  · refine s_iconst C dX12_finder_7 (v := (-1 : Int32)) (by decide) ?_
    exact s_ireturn C E dX12_finder_8 hf (Nat.le_of_ble_eq_true rfl) (Nat.le_of_ble_eq_true rfl)
/-- HillBoxesModel.bothOf(II)V -/
noncomputable def f_X12_bothOf (o : Option Nat) (a1 : Int32) (a2 : Int32) (h : AH) : Option (Unit × AH) :=
  fR h [12] o 43 fun v1 =>
  fR h [12] o 5 fun v2 =>
  aI h 20 v2 a1 fun v3 =>
  rO h [12] o <| cl (f_X12_cellNow o a2 h) fun v5 h4 =>
  cl (f_X12_farOf v3 v5 h4) fun v7 h6 =>
  bI h6 20 v1 (8 : Int32) v7 fun h8 =>
  fR h8 [12] o 43 fun v9 =>
  rO h8 [12] o <| cl (f_X12_isOnPaper o a1 a2 h8) fun v11 h10 =>
  jn (fun (x12 : Int32) =>
    bI h10 20 v9 (9 : Int32) x12 fun h13 =>
    fR h13 [12] o 43 fun v14 =>
    fR h13 [12] o 8 fun v15 =>
    aI h13 20 v15 a2 fun v16 =>
    jn (fun (x17 : Int32) =>
      bI h13 20 v14 (10 : Int32) x17 fun h18 =>
      some ((), h18)) fun j63 =>
    if v16 = a1 then
      j63 (1 : Int32)
    else
      j63 (0 : Int32)) fun j41 =>
  if v11 = 0 then
    j41 (0 : Int32)
  else
    j41 (1 : Int32)
set_option maxRecDepth 100000 in
set_option maxHeartbeats 4000000 in
theorem c_X12_bothOf (l : Launch) (D : DT) (o : Option Nat) (a1 : Int32) (a2 : Int32) (h : AH) (r : Unit × AH) (hf : f_X12_bothOf o a1 a2 h = some r) : CM l D yX12_bothOf cX12_bothOf 3 none 2 41 0 0 [.inr (.inr o), .inl a1, .inl a2] h none r.2 := by
  refine CM.of (by decide) (Nat.le_of_ble_eq_true rfl) (fun X hl C hD hX hnm E => ?_)
  subst hl
  subst hD
  have C : CX X RX12 cX12_bothOf 3 := C
  show WW X h 0 0 0 [some (rB (xD X).1 o), some (.int a1), some (.int a2)] []
  unfold f_X12_bothOf at hf
  refine s_aload_n C dX12_bothOf_0 rfl ?_
  refine s_getR C fl_X12_97 dX12_bothOf_1 hf (fun v1 hf => ?_)
  refine s_bipush C dX12_bothOf_4 (v := (8 : Int32)) (by decide) ?_
  refine s_aload_n C dX12_bothOf_6 rfl ?_
  refine s_getR C fl_X12_16 dX12_bothOf_7 hf (fun v2 hf => ?_)
  refine s_iload_n C dX12_bothOf_10 rfl ?_
  refine s_iaload C dX12_bothOf_11 hf (fun v3 hf => ?_)
  refine s_aload_n C dX12_bothOf_12 rfl ?_
  refine s_iload_n C dX12_bothOf_13 rfl ?_
  refine s_callV (rvf := fun x => some (.int x)) (st := [.int v3, .int (8 : Int32), rB (xD X).1 v1]) (fr := 0) (lo := 0) (mc := 0) (ms := 0) C [12] wc_X12_cellNow wml_X12_239 wim_X12_cellNow wsl_12_X12_cellNow dX12_bothOf_14 (As := [.inl a2]) rfl hf (fun x h' hF => c_X12_cellNow _ _ _ _ _ (x, h') hF) rfl (Nat.le_of_ble_eq_true rfl) (room_ok hX (Nat.le_of_ble_eq_true rfl) (Nat.le_of_ble_eq_true rfl)) (cell_ok hX (Nat.le_of_ble_eq_true rfl) (Nat.le_of_ble_eq_true rfl)) (fun v5 h4 hf => ?_)
  refine s_callS (rvf := fun x => some (.int x)) (st := [.int (8 : Int32), rB (xD X).1 v1]) (fr := 1) (lo := 20) (mc := 0) (ms := 0) C wc_X12_farOf wml_X12_308 wst_X12_farOf dX12_bothOf_17 (As := [.inl v3, .inl v5]) rfl hf (fun x h' hF => c_X12_farOf _ _ _ _ _ (x, h') hF) rfl (Nat.le_of_ble_eq_true rfl) (room_ok hX (Nat.le_of_ble_eq_true rfl) (Nat.le_of_ble_eq_true rfl)) (cell_ok hX (Nat.le_of_ble_eq_true rfl) (Nat.le_of_ble_eq_true rfl)) (fun v7 h6 hf => ?_)
  refine s_iastore C dX12_bothOf_20 hf (fun h8 hf => ?_)
  refine s_aload_n C dX12_bothOf_21 rfl ?_
  refine s_getR C fl_X12_97 dX12_bothOf_22 hf (fun v9 hf => ?_)
  refine s_bipush C dX12_bothOf_25 (v := (9 : Int32)) (by decide) ?_
  refine s_aload_n C dX12_bothOf_27 rfl ?_
  refine s_iload_n C dX12_bothOf_28 rfl ?_
  refine s_iload_n C dX12_bothOf_29 rfl ?_
  refine s_callV (rvf := fun x => some (.int x)) (st := [.int (9 : Int32), rB (xD X).1 v9]) (fr := 0) (lo := 0) (mc := 0) (ms := 0) C [12] wc_X12_isOnPaper wml_X12_282 wim_X12_isOnPaper wsl_12_X12_isOnPaper dX12_bothOf_30 (As := [.inl a1, .inl a2]) rfl hf (fun x h' hF => c_X12_isOnPaper _ _ _ _ _ _ (x, h') hF) rfl (Nat.le_of_ble_eq_true rfl) (room_ok hX (Nat.le_of_ble_eq_true rfl) (Nat.le_of_ble_eq_true rfl)) (cell_ok hX (Nat.le_of_ble_eq_true rfl) (Nat.le_of_ble_eq_true rfl)) (fun v11 h10 hf => ?_)
  refine s_jn hf (fun j41 e41 hf => ?_)
  have k41 : ∀ (x12 : Int32), j41 x12 = some r → WW X h10 0 0 41 [some (rB (xD X).1 o), some (.int a1), some (.int a2)] [.int x12, .int (9 : Int32), rB (xD X).1 v9] := by
    intro x12 hf
    rw [e41] at hf
    refine s_iastore C dX12_bothOf_41 hf (fun h13 hf => ?_)
    refine s_aload_n C dX12_bothOf_42 rfl ?_
    refine s_getR C fl_X12_97 dX12_bothOf_43 hf (fun v14 hf => ?_)
    refine s_bipush C dX12_bothOf_46 (v := (10 : Int32)) (by decide) ?_
    refine s_aload_n C dX12_bothOf_48 rfl ?_
    refine s_getR C fl_X12_25 dX12_bothOf_49 hf (fun v15 hf => ?_)
    refine s_iload_n C dX12_bothOf_52 rfl ?_
    refine s_iaload C dX12_bothOf_53 hf (fun v16 hf => ?_)
    refine s_iload_n C dX12_bothOf_54 rfl ?_
    refine s_jn hf (fun j63 e63 hf => ?_)
    have k63 : ∀ (x17 : Int32), j63 x17 = some r → WW X h13 0 0 63 [none, none, none] [.int x17, .int (10 : Int32), rB (xD X).1 v14] := by
      intro x17 hf
      rw [e63] at hf
      refine s_iastore C dX12_bothOf_63 hf (fun h18 hf => ?_)
      exact s_return C E dX12_bothOf_64 hf (Nat.le_of_ble_eq_true rfl) (Nat.le_of_ble_eq_true rfl)
    refine s_icmp_ne (tgt := 62) C dX12_bothOf_55 (by decide) hf (fun hf => ?_) (fun hf => ?_)
    · refine s_iconst C dX12_bothOf_62 (v := (0 : Int32)) (by decide) ?_
      refine s_weak (lv' := [none, none, none]) trivial ?_
      exact k63 _ hf
    · refine s_iconst C dX12_bothOf_58 (v := (1 : Int32)) (by decide) ?_
      refine s_goto (tgt := 63) C dX12_bothOf_59 (by decide) ?_
      refine s_weak (lv' := [none, none, none]) trivial ?_
      exact k63 _ hf
  refine s_if_eq (tgt := 40) C dX12_bothOf_33 (by decide) hf (fun hf => ?_) (fun hf => ?_)
  · refine s_iconst C dX12_bothOf_40 (v := (0 : Int32)) (by decide) ?_
    exact k41 _ hf
  · refine s_iconst C dX12_bothOf_36 (v := (1 : Int32)) (by decide) ?_
    refine s_goto (tgt := 41) C dX12_bothOf_37 (by decide) ?_
    exact k41 _ hf
/-- HillBoxesModel.findsOf(I)I -/
noncomputable def f_X12_findsOf (o : Option Nat) (a1 : Int32) (h : AH) : Option (Int32 × AH) :=
  lp (fun _ _ => none) (fun (L4 : Int32 → Int32 → Option (Int32 × AH)) (x1 : Int32) (x2 : Int32) =>
    fI h [12] o 17 fun v3 =>
    if v3 ≤ x2 then
      some (x1, h)
    else
      fR h [12] o 19 fun v4 =>
      aI h 20 v4 x2 fun v5 =>
      jn (fun (x6 : Int32) =>
        L4 (x1 + x6) (x2 + 1)) fun j37 =>
      jn (
        j37 (0 : Int32)) fun j36 =>
      if v5 = a1 then
        fR h [12] o 21 fun v7 =>
        aI h 23 v7 x2 fun v8 =>
        if v8 = 0 then
          j36
        else
          j37 (1 : Int32)
      else
        j36) lpN (0 : Int32) (0 : Int32)
set_option maxRecDepth 100000 in
set_option maxHeartbeats 4000000 in
theorem c_X12_findsOf (l : Launch) (D : DT) (o : Option Nat) (a1 : Int32) (h : AH) (r : Int32 × AH) (hf : f_X12_findsOf o a1 h = some r) : CM l D yX12_findsOf cX12_findsOf 4 (some .int) 0 0 0 0 [.inr (.inr o), .inl a1] h (some (.int r.1)) r.2 := by
  refine CM.of (by decide) (Nat.le_of_ble_eq_true rfl) (fun X hl C hD hX hnm E => ?_)
  subst hl
  subst hD
  have C : CX X RX12 cX12_findsOf 4 := C
  show WW X h 0 0 0 [some (rB (xD X).1 o), some (.int a1), none, none] []
  unfold f_X12_findsOf at hf
  refine s_iconst C dX12_findsOf_0 (v := (0 : Int32)) (by decide) ?_
  refine s_istore_n C dX12_findsOf_1 (by decide) (nc_i rfl) (lv' := [some (rB (xD X).1 o), some (.int a1), some (.int (0 : Int32)), none]) rfl ?_
  refine s_iconst C dX12_findsOf_2 (v := (0 : Int32)) (by decide) ?_
  refine s_istore_n C dX12_findsOf_3 (by decide) (nc_i rfl) (lv' := [some (rB (xD X).1 o), some (.int a1), some (.int (0 : Int32)), some (.int (0 : Int32))]) rfl ?_
  refine s_lp2 hf (fun G4 z4 q4 hf => ?_)
  have k4 : ∀ (n : Nat) (x1 : Int32) (x2 : Int32), G4 n x1 x2 = some r → WW X h 0 0 4 [some (rB (xD X).1 o), some (.int a1), some (.int x1), some (.int x2)] [] := by
    intro n
    induction n with
    | zero =>
      intro x1 x2 hf
      rw [z4] at hf
      cases hf
    | succ n ih4 =>
      intro x1 x2 hf
      have hf := (q4 n x1 x2).symm.trans hf
      refine s_iload_n C dX12_findsOf_4 rfl ?_
      refine s_aload_n C dX12_findsOf_5 rfl ?_
      refine s_getI C fl_X12_252 dX12_findsOf_6 hf (fun v3 hf => ?_)
      refine s_icmp_ge (tgt := 45) C dX12_findsOf_9 (by decide) hf (fun hf => ?_) (fun hf => ?_)
      · refine s_iload_n C dX12_findsOf_45 rfl ?_
        exact s_ireturn C E dX12_findsOf_46 hf (Nat.le_of_ble_eq_true rfl) (Nat.le_of_ble_eq_true rfl)
      · refine s_iload_n C dX12_findsOf_12 rfl ?_
        refine s_aload_n C dX12_findsOf_13 rfl ?_
        refine s_getR C fl_X12_49 dX12_findsOf_14 hf (fun v4 hf => ?_)
        refine s_iload_n C dX12_findsOf_17 rfl ?_
        refine s_iaload C dX12_findsOf_18 hf (fun v5 hf => ?_)
        refine s_iload_n C dX12_findsOf_19 rfl ?_
        refine s_jn hf (fun j37 e37 hf => ?_)
        have k37 : ∀ (x6 : Int32), j37 x6 = some r → WW X h 0 0 37 [some (rB (xD X).1 o), some (.int a1), none, some (.int x2)] [.int x6, .int x1] := by
          intro x6 hf
          rw [e37] at hf
          refine s_iadd C dX12_findsOf_37 ?_
          refine s_istore_n C dX12_findsOf_38 (by decide) (nc_i rfl) (lv' := [some (rB (xD X).1 o), some (.int a1), some (.int (x1 + x6)), some (.int x2)]) rfl ?_
          refine s_iinc C dX12_findsOf_39 (v := (x2 + 1)) rfl rfl (by decide) (nc_i rfl) (lv' := [some (rB (xD X).1 o), some (.int a1), some (.int (x1 + x6)), some (.int (x2 + 1))]) rfl ?_
          refine s_goto (tgt := 4) C dX12_findsOf_42 (by decide) ?_
          exact ih4 _ _ hf
        refine s_jn hf (fun j36 e36 hf => ?_)
        have k36 : j36  = some r → WW X h 0 0 36 [some (rB (xD X).1 o), some (.int a1), none, some (.int x2)] [.int x1] := by
          intro  hf
          rw [e36] at hf
          refine s_iconst C dX12_findsOf_36 (v := (0 : Int32)) (by decide) ?_
          exact k37 _ hf
        refine s_icmp_ne (tgt := 36) C dX12_findsOf_20 (by decide) hf (fun hf => ?_) (fun hf => ?_)
        · refine s_weak (lv' := [some (rB (xD X).1 o), some (.int a1), none, some (.int x2)]) ⟨rfl, ⟨rfl, ⟨rfl, trivial⟩⟩⟩ ?_
          exact k36 hf
        · refine s_aload_n C dX12_findsOf_23 rfl ?_
          refine s_getR C fl_X12_55 dX12_findsOf_24 hf (fun v7 hf => ?_)
          refine s_iload_n C dX12_findsOf_27 rfl ?_
          refine s_zaload C dX12_findsOf_28 hf (fun v8 hf => ?_)
          refine s_if_eq (tgt := 36) C dX12_findsOf_29 (by decide) hf (fun hf => ?_) (fun hf => ?_)
          · refine s_weak (lv' := [some (rB (xD X).1 o), some (.int a1), none, some (.int x2)]) ⟨rfl, ⟨rfl, ⟨rfl, trivial⟩⟩⟩ ?_
            exact k36 hf
          · refine s_iconst C dX12_findsOf_32 (v := (1 : Int32)) (by decide) ?_
            refine s_goto (tgt := 37) C dX12_findsOf_33 (by decide) ?_
            refine s_weak (lv' := [some (rB (xD X).1 o), some (.int a1), none, some (.int x2)]) ⟨rfl, ⟨rfl, ⟨rfl, trivial⟩⟩⟩ ?_
            exact k37 _ hf
  exact k4 lpN _ _ hf
/-- HillBoxesModel.latestFound(I)I -/
noncomputable def f_X12_latestFound (o : Option Nat) (a1 : Int32) (h : AH) : Option (Int32 × AH) :=
  lp (fun _ _ _ => none) (fun (L4 : Int32 → Int32 → AH → Option (Int32 × AH)) (x1 : Int32) (x2 : Int32) (h3 : AH) =>
    fI h3 [12] o 17 fun v4 =>
    if v4 ≤ x2 then
      some (x1, h3)
    else
      fR h3 [12] o 19 fun v5 =>
      aI h3 20 v5 x2 fun v6 =>
      jn (fun (x7 : Int32) (h8 : AH) =>
        L4 x7 (x2 + 1) h8) fun j46 =>
      if v6 = a1 then
        fR h3 [12] o 21 fun v9 =>
        aI h3 23 v9 x2 fun v10 =>
        if v10 = 0 then
          j46 x1 h3
        else
          jn (fun (h11 : AH) =>
            j46 x2 h11) fun j44 =>
          if x1 < 0 then
            j44 h3
          else
            rO h3 [12] o <| cl (f_X12_isBehind o x2 x1 h3) fun v13 h12 =>
            if v13 = 0 then
              j46 x1 h12
            else
              j44 h12
      else
        j46 x1 h3) lpN (-1 : Int32) (0 : Int32) h
set_option maxRecDepth 100000 in
set_option maxHeartbeats 4000000 in
theorem c_X12_latestFound (l : Launch) (D : DT) (o : Option Nat) (a1 : Int32) (h : AH) (r : Int32 × AH) (hf : f_X12_latestFound o a1 h = some r) : CM l D yX12_latestFound cX12_latestFound 4 (some .int) 1 22 0 0 [.inr (.inr o), .inl a1] h (some (.int r.1)) r.2 := by
  refine CM.of (by decide) (Nat.le_of_ble_eq_true rfl) (fun X hl C hD hX hnm E => ?_)
  subst hl
  subst hD
  have C : CX X RX12 cX12_latestFound 4 := C
  show WW X h 0 0 0 [some (rB (xD X).1 o), some (.int a1), none, none] []
  unfold f_X12_latestFound at hf
  refine s_iconst C dX12_latestFound_0 (v := (-1 : Int32)) (by decide) ?_
  refine s_istore_n C dX12_latestFound_1 (by decide) (nc_i rfl) (lv' := [some (rB (xD X).1 o), some (.int a1), some (.int (-1 : Int32)), none]) rfl ?_
  refine s_iconst C dX12_latestFound_2 (v := (0 : Int32)) (by decide) ?_
  refine s_istore_n C dX12_latestFound_3 (by decide) (nc_i rfl) (lv' := [some (rB (xD X).1 o), some (.int a1), some (.int (-1 : Int32)), some (.int (0 : Int32))]) rfl ?_
  refine s_lp3 hf (fun G4 z4 q4 hf => ?_)
  have k4 : ∀ (n : Nat) (x1 : Int32) (x2 : Int32) (h3 : AH), G4 n x1 x2 h3 = some r → WW X h3 0 0 4 [some (rB (xD X).1 o), some (.int a1), some (.int x1), some (.int x2)] [] := by
    intro n
    induction n with
    | zero =>
      intro x1 x2 h3 hf
      rw [z4] at hf
      cases hf
    | succ n ih4 =>
      intro x1 x2 h3 hf
      have hf := (q4 n x1 x2 h3).symm.trans hf
      refine s_iload_n C dX12_latestFound_4 rfl ?_
      refine s_aload_n C dX12_latestFound_5 rfl ?_
      refine s_getI C fl_X12_252 dX12_latestFound_6 hf (fun v4 hf => ?_)
      refine s_icmp_ge (tgt := 52) C dX12_latestFound_9 (by decide) hf (fun hf => ?_) (fun hf => ?_)
      · refine s_iload_n C dX12_latestFound_52 rfl ?_
        exact s_ireturn C E dX12_latestFound_53 hf (Nat.le_of_ble_eq_true rfl) (Nat.le_of_ble_eq_true rfl)
      · refine s_aload_n C dX12_latestFound_12 rfl ?_
        refine s_getR C fl_X12_49 dX12_latestFound_13 hf (fun v5 hf => ?_)
        refine s_iload_n C dX12_latestFound_16 rfl ?_
        refine s_iaload C dX12_latestFound_17 hf (fun v6 hf => ?_)
        refine s_iload_n C dX12_latestFound_18 rfl ?_
        refine s_jn hf (fun j46 e46 hf => ?_)
        have k46 : ∀ (x7 : Int32) (h8 : AH), j46 x7 h8 = some r → WW X h8 0 0 46 [some (rB (xD X).1 o), some (.int a1), some (.int x7), some (.int x2)] [] := by
          intro x7 h8 hf
          rw [e46] at hf
          refine s_iinc C dX12_latestFound_46 (v := (x2 + 1)) rfl rfl (by decide) (nc_i rfl) (lv' := [some (rB (xD X).1 o), some (.int a1), some (.int x7), some (.int (x2 + 1))]) rfl ?_
          refine s_goto (tgt := 4) C dX12_latestFound_49 (by decide) ?_
          exact ih4 _ _ _ hf
        refine s_icmp_ne (tgt := 46) C dX12_latestFound_19 (by decide) hf (fun hf => ?_) (fun hf => ?_)
        · exact k46 _ _ hf
        · refine s_aload_n C dX12_latestFound_22 rfl ?_
          refine s_getR C fl_X12_55 dX12_latestFound_23 hf (fun v9 hf => ?_)
          refine s_iload_n C dX12_latestFound_26 rfl ?_
          refine s_zaload C dX12_latestFound_27 hf (fun v10 hf => ?_)
          refine s_if_eq (tgt := 46) C dX12_latestFound_28 (by decide) hf (fun hf => ?_) (fun hf => ?_)
          · exact k46 _ _ hf
          · refine s_iload_n C dX12_latestFound_31 rfl ?_
            refine s_jn hf (fun j44 e44 hf => ?_)
            have k44 : ∀ (h11 : AH), j44 h11 = some r → WW X h11 0 0 44 [some (rB (xD X).1 o), some (.int a1), none, some (.int x2)] [] := by
              intro h11 hf
              rw [e44] at hf
              refine s_iload_n C dX12_latestFound_44 rfl ?_
              refine s_istore_n C dX12_latestFound_45 (by decide) (nc_i rfl) (lv' := [some (rB (xD X).1 o), some (.int a1), some (.int x2), some (.int x2)]) rfl ?_
              exact k46 _ _ hf
            refine s_if_lt (tgt := 44) C dX12_latestFound_32 (by decide) hf (fun hf => ?_) (fun hf => ?_)
            · refine s_weak (lv' := [some (rB (xD X).1 o), some (.int a1), none, some (.int x2)]) ⟨rfl, ⟨rfl, ⟨rfl, trivial⟩⟩⟩ ?_
              exact k44 _ hf
            · refine s_aload_n C dX12_latestFound_35 rfl ?_
              refine s_iload_n C dX12_latestFound_36 rfl ?_
              refine s_iload_n C dX12_latestFound_37 rfl ?_
              refine s_callV (rvf := fun x => some (.int x)) (st := []) (fr := 0) (lo := 0) (mc := 0) (ms := 0) C [12] wc_X12_isBehind wml_X12_270 wim_X12_isBehind wsl_12_X12_isBehind dX12_latestFound_38 (As := [.inl x2, .inl x1]) rfl hf (fun x h' hF => c_X12_isBehind _ _ _ _ _ _ (x, h') hF) rfl (Nat.le_of_ble_eq_true rfl) (room_ok hX (Nat.le_of_ble_eq_true rfl) (Nat.le_of_ble_eq_true rfl)) (cell_ok hX (Nat.le_of_ble_eq_true rfl) (Nat.le_of_ble_eq_true rfl)) (fun v13 h12 hf => ?_)
              refine s_if_eq (tgt := 46) C dX12_latestFound_41 (by decide) hf (fun hf => ?_) (fun hf => ?_)
              · exact k46 _ _ hf
              · refine s_weak (lv' := [some (rB (xD X).1 o), some (.int a1), none, some (.int x2)]) ⟨rfl, ⟨rfl, ⟨rfl, trivial⟩⟩⟩ ?_
                exact k44 _ hf
  exact k4 lpN _ _ _ hf
/-- HillBoxesModel.missesOf(I)I -/
noncomputable def f_X12_missesOf (o : Option Nat) (a1 : Int32) (h : AH) : Option (Int32 × AH) :=
  rO h [12] o <| cl (f_X12_latestFound o a1 h) fun v2 h1 =>
  lp (fun _ _ _ => none) (fun (L11 : Int32 → Int32 → AH → Option (Int32 × AH)) (x3 : Int32) (x4 : Int32) (h5 : AH) =>
    fI h5 [12] o 17 fun v6 =>
    if v6 ≤ x4 then
      some (x3, h5)
    else
      fR h5 [12] o 19 fun v7 =>
      aI h5 20 v7 x4 fun v8 =>
      jn (fun (x9 : Int32) (h10 : AH) =>
        L11 (x3 + x9) (x4 + 1) h10) fun j61 =>
      jn (fun (h11 : AH) =>
        j61 (0 : Int32) h11) fun j60 =>
      if v8 = a1 then
        fR h5 [12] o 21 fun v12 =>
        aI h5 23 v12 x4 fun v13 =>
        if v13 = 0 then
          jn (fun (h14 : AH) =>
            j61 (1 : Int32) h14) fun j56 =>
          if v2 < 0 then
            j56 h5
          else
            rO h5 [12] o <| cl (f_X12_isBehind o x4 v2 h5) fun v16 h15 =>
            if v16 = 0 then
              j60 h15
            else
              j56 h15
        else
          j60 h5
      else
        j60 h5) lpN (0 : Int32) (0 : Int32) h1
set_option maxRecDepth 100000 in
set_option maxHeartbeats 4000000 in
theorem c_X12_missesOf (l : Launch) (D : DT) (o : Option Nat) (a1 : Int32) (h : AH) (r : Int32 × AH) (hf : f_X12_missesOf o a1 h = some r) : CM l D yX12_missesOf cX12_missesOf 5 (some .int) 2 45 0 0 [.inr (.inr o), .inl a1] h (some (.int r.1)) r.2 := by
  refine CM.of (by decide) (Nat.le_of_ble_eq_true rfl) (fun X hl C hD hX hnm E => ?_)
  subst hl
  subst hD
  have C : CX X RX12 cX12_missesOf 5 := C
  show WW X h 0 0 0 [some (rB (xD X).1 o), some (.int a1), none, none, none] []
  unfold f_X12_missesOf at hf
  refine s_aload_n C dX12_missesOf_0 rfl ?_
  refine s_iload_n C dX12_missesOf_1 rfl ?_
  refine s_callV (rvf := fun x => some (.int x)) (st := []) (fr := 1) (lo := 22) (mc := 0) (ms := 0) C [12] wc_X12_latestFound wml_X12_273 wim_X12_latestFound wsl_12_X12_latestFound dX12_missesOf_2 (As := [.inl a1]) rfl hf (fun x h' hF => c_X12_latestFound _ _ _ _ _ (x, h') hF) rfl (Nat.le_of_ble_eq_true rfl) (room_ok hX (Nat.le_of_ble_eq_true rfl) (Nat.le_of_ble_eq_true rfl)) (cell_ok hX (Nat.le_of_ble_eq_true rfl) (Nat.le_of_ble_eq_true rfl)) (fun v2 h1 hf => ?_)
  refine s_istore_n C dX12_missesOf_5 (by decide) (nc_i rfl) (lv' := [some (rB (xD X).1 o), some (.int a1), some (.int v2), none, none]) rfl ?_
  refine s_iconst C dX12_missesOf_6 (v := (0 : Int32)) (by decide) ?_
  refine s_istore_n C dX12_missesOf_7 (by decide) (nc_i rfl) (lv' := [some (rB (xD X).1 o), some (.int a1), some (.int v2), some (.int (0 : Int32)), none]) rfl ?_
  refine s_iconst C dX12_missesOf_8 (v := (0 : Int32)) (by decide) ?_
  refine s_istore C dX12_missesOf_9 (by decide) (nc_i rfl) (lv' := [some (rB (xD X).1 o), some (.int a1), some (.int v2), some (.int (0 : Int32)), some (.int (0 : Int32))]) rfl ?_
  refine s_lp3 hf (fun G11 z11 q11 hf => ?_)
  have k11 : ∀ (n : Nat) (x3 : Int32) (x4 : Int32) (h5 : AH), G11 n x3 x4 h5 = some r → WW X h5 0 0 11 [some (rB (xD X).1 o), some (.int a1), some (.int v2), some (.int x3), some (.int x4)] [] := by
    intro n
    induction n with
    | zero =>
      intro x3 x4 h5 hf
      rw [z11] at hf
      cases hf
    | succ n ih11 =>
      intro x3 x4 h5 hf
      have hf := (q11 n x3 x4 h5).symm.trans hf
      refine s_iload C dX12_missesOf_11 rfl ?_
      refine s_aload_n C dX12_missesOf_13 rfl ?_
      refine s_getI C fl_X12_252 dX12_missesOf_14 hf (fun v6 hf => ?_)
      refine s_icmp_ge (tgt := 69) C dX12_missesOf_17 (by decide) hf (fun hf => ?_) (fun hf => ?_)
      · refine s_iload_n C dX12_missesOf_69 rfl ?_
        exact s_ireturn C E dX12_missesOf_70 hf (Nat.le_of_ble_eq_true rfl) (Nat.le_of_ble_eq_true rfl)
      · refine s_iload_n C dX12_missesOf_20 rfl ?_
        refine s_aload_n C dX12_missesOf_21 rfl ?_
        refine s_getR C fl_X12_49 dX12_missesOf_22 hf (fun v7 hf => ?_)
        refine s_iload C dX12_missesOf_25 rfl ?_
        refine s_iaload C dX12_missesOf_27 hf (fun v8 hf => ?_)
        refine s_iload_n C dX12_missesOf_28 rfl ?_
        refine s_jn hf (fun j61 e61 hf => ?_)
        have k61 : ∀ (x9 : Int32) (h10 : AH), j61 x9 h10 = some r → WW X h10 0 0 61 [some (rB (xD X).1 o), some (.int a1), some (.int v2), none, some (.int x4)] [.int x9, .int x3] := by
          intro x9 h10 hf
          rw [e61] at hf
          refine s_iadd C dX12_missesOf_61 ?_
          refine s_istore_n C dX12_missesOf_62 (by decide) (nc_i rfl) (lv' := [some (rB (xD X).1 o), some (.int a1), some (.int v2), some (.int (x3 + x9)), some (.int x4)]) rfl ?_
          refine s_iinc C dX12_missesOf_63 (v := (x4 + 1)) rfl rfl (by decide) (nc_i rfl) (lv' := [some (rB (xD X).1 o), some (.int a1), some (.int v2), some (.int (x3 + x9)), some (.int (x4 + 1))]) rfl ?_
          refine s_goto (tgt := 11) C dX12_missesOf_66 (by decide) ?_
          exact ih11 _ _ _ hf
        refine s_jn hf (fun j60 e60 hf => ?_)
        have k60 : ∀ (h11 : AH), j60 h11 = some r → WW X h11 0 0 60 [some (rB (xD X).1 o), some (.int a1), some (.int v2), none, some (.int x4)] [.int x3] := by
          intro h11 hf
          rw [e60] at hf
          refine s_iconst C dX12_missesOf_60 (v := (0 : Int32)) (by decide) ?_
          exact k61 _ _ hf
        refine s_icmp_ne (tgt := 60) C dX12_missesOf_29 (by decide) hf (fun hf => ?_) (fun hf => ?_)
        · refine s_weak (lv' := [some (rB (xD X).1 o), some (.int a1), some (.int v2), none, some (.int x4)]) ⟨rfl, ⟨rfl, ⟨rfl, ⟨rfl, trivial⟩⟩⟩⟩ ?_
          exact k60 _ hf
        · refine s_aload_n C dX12_missesOf_32 rfl ?_
          refine s_getR C fl_X12_55 dX12_missesOf_33 hf (fun v12 hf => ?_)
          refine s_iload C dX12_missesOf_36 rfl ?_
          refine s_zaload C dX12_missesOf_38 hf (fun v13 hf => ?_)
          refine s_if_ne (tgt := 60) C dX12_missesOf_39 (by decide) hf (fun hf => ?_) (fun hf => ?_)
          · refine s_weak (lv' := [some (rB (xD X).1 o), some (.int a1), some (.int v2), none, some (.int x4)]) ⟨rfl, ⟨rfl, ⟨rfl, ⟨rfl, trivial⟩⟩⟩⟩ ?_
            exact k60 _ hf
          · refine s_iload_n C dX12_missesOf_42 rfl ?_
            refine s_jn hf (fun j56 e56 hf => ?_)
            have k56 : ∀ (h14 : AH), j56 h14 = some r → WW X h14 0 0 56 [some (rB (xD X).1 o), some (.int a1), some (.int v2), none, some (.int x4)] [.int x3] := by
              intro h14 hf
              rw [e56] at hf
              refine s_iconst C dX12_missesOf_56 (v := (1 : Int32)) (by decide) ?_
              refine s_goto (tgt := 61) C dX12_missesOf_57 (by decide) ?_
              exact k61 _ _ hf
            refine s_if_lt (tgt := 56) C dX12_missesOf_43 (by decide) hf (fun hf => ?_) (fun hf => ?_)
            · refine s_weak (lv' := [some (rB (xD X).1 o), some (.int a1), some (.int v2), none, some (.int x4)]) ⟨rfl, ⟨rfl, ⟨rfl, ⟨rfl, trivial⟩⟩⟩⟩ ?_
              exact k56 _ hf
            · refine s_aload_n C dX12_missesOf_46 rfl ?_
              refine s_iload C dX12_missesOf_47 rfl ?_
              refine s_iload_n C dX12_missesOf_49 rfl ?_
              refine s_callV (rvf := fun x => some (.int x)) (st := [.int x3]) (fr := 0) (lo := 0) (mc := 0) (ms := 0) C [12] wc_X12_isBehind wml_X12_270 wim_X12_isBehind wsl_12_X12_isBehind dX12_missesOf_50 (As := [.inl x4, .inl v2]) rfl hf (fun x h' hF => c_X12_isBehind _ _ _ _ _ _ (x, h') hF) rfl (Nat.le_of_ble_eq_true rfl) (room_ok hX (Nat.le_of_ble_eq_true rfl) (Nat.le_of_ble_eq_true rfl)) (cell_ok hX (Nat.le_of_ble_eq_true rfl) (Nat.le_of_ble_eq_true rfl)) (fun v16 h15 hf => ?_)
              refine s_if_eq (tgt := 60) C dX12_missesOf_53 (by decide) hf (fun hf => ?_) (fun hf => ?_)
              · refine s_weak (lv' := [some (rB (xD X).1 o), some (.int a1), some (.int v2), none, some (.int x4)]) ⟨rfl, ⟨rfl, ⟨rfl, ⟨rfl, trivial⟩⟩⟩⟩ ?_
                exact k60 _ hf
              · refine s_weak (lv' := [some (rB (xD X).1 o), some (.int a1), some (.int v2), none, some (.int x4)]) ⟨rfl, ⟨rfl, ⟨rfl, ⟨rfl, trivial⟩⟩⟩⟩ ?_
                exact k56 _ hf
  exact k11 lpN _ _ _ hf
/-- HillBoxesModel.findBox(II)V -/
noncomputable def f_X12_findBox (o : Option Nat) (a1 : Int32) (a2 : Int32) (h : AH) : Option (Unit × AH) :=
  fR h [12] o 43 fun v1 =>
  fR h [12] o 4 fun v2 =>
  aI h 20 v2 a1 fun v3 =>
  bI h 20 v1 (1 : Int32) v3 fun h4 =>
  fR h4 [12] o 43 fun v5 =>
  fR h4 [12] o 6 fun v6 =>
  aI h4 20 v6 a1 fun v7 =>
  bI h4 20 v5 (4 : Int32) (a2 - v7) fun h8 =>
  fR h8 [12] o 43 fun v9 =>
  rO h8 [12] o <| cl (f_X12_findsOf o a1 h8) fun v11 h10 =>
  bI h10 20 v9 (5 : Int32) v11 fun h12 =>
  fR h12 [12] o 43 fun v13 =>
  rO h12 [12] o <| cl (f_X12_missesOf o a1 h12) fun v15 h14 =>
  bI h14 20 v13 (6 : Int32) v15 fun h16 =>
  some ((), h16)
set_option maxRecDepth 100000 in
set_option maxHeartbeats 4000000 in
theorem c_X12_findBox (l : Launch) (D : DT) (o : Option Nat) (a1 : Int32) (a2 : Int32) (h : AH) (r : Unit × AH) (hf : f_X12_findBox o a1 a2 h = some r) : CM l D yX12_findBox cX12_findBox 3 none 3 69 0 0 [.inr (.inr o), .inl a1, .inl a2] h none r.2 := by
  refine CM.of (by decide) (Nat.le_of_ble_eq_true rfl) (fun X hl C hD hX hnm E => ?_)
  subst hl
  subst hD
  have C : CX X RX12 cX12_findBox 3 := C
  show WW X h 0 0 0 [some (rB (xD X).1 o), some (.int a1), some (.int a2)] []
  unfold f_X12_findBox at hf
  refine s_aload_n C dX12_findBox_0 rfl ?_
  refine s_getR C fl_X12_97 dX12_findBox_1 hf (fun v1 hf => ?_)
  refine s_iconst C dX12_findBox_4 (v := (1 : Int32)) (by decide) ?_
  refine s_aload_n C dX12_findBox_5 rfl ?_
  refine s_getR C fl_X12_13 dX12_findBox_6 hf (fun v2 hf => ?_)
  refine s_iload_n C dX12_findBox_9 rfl ?_
  refine s_iaload C dX12_findBox_10 hf (fun v3 hf => ?_)
  refine s_iastore C dX12_findBox_11 hf (fun h4 hf => ?_)
  refine s_aload_n C dX12_findBox_12 rfl ?_
  refine s_getR C fl_X12_97 dX12_findBox_13 hf (fun v5 hf => ?_)
  refine s_iconst C dX12_findBox_16 (v := (4 : Int32)) (by decide) ?_
  refine s_iload_n C dX12_findBox_17 rfl ?_
  refine s_aload_n C dX12_findBox_18 rfl ?_
  refine s_getR C fl_X12_19 dX12_findBox_19 hf (fun v6 hf => ?_)
  refine s_iload_n C dX12_findBox_22 rfl ?_
  refine s_iaload C dX12_findBox_23 hf (fun v7 hf => ?_)
  refine s_isub C dX12_findBox_24 ?_
  refine s_iastore C dX12_findBox_25 hf (fun h8 hf => ?_)
  refine s_aload_n C dX12_findBox_26 rfl ?_
  refine s_getR C fl_X12_97 dX12_findBox_27 hf (fun v9 hf => ?_)
  refine s_iconst C dX12_findBox_30 (v := (5 : Int32)) (by decide) ?_
  refine s_aload_n C dX12_findBox_31 rfl ?_
  refine s_iload_n C dX12_findBox_32 rfl ?_
  refine s_callV (rvf := fun x => some (.int x)) (st := [.int (5 : Int32), rB (xD X).1 v9]) (fr := 0) (lo := 0) (mc := 0) (ms := 0) C [12] wc_X12_findsOf wml_X12_264 wim_X12_findsOf wsl_12_X12_findsOf dX12_findBox_33 (As := [.inl a1]) rfl hf (fun x h' hF => c_X12_findsOf _ _ _ _ _ (x, h') hF) rfl (Nat.le_of_ble_eq_true rfl) (room_ok hX (Nat.le_of_ble_eq_true rfl) (Nat.le_of_ble_eq_true rfl)) (cell_ok hX (Nat.le_of_ble_eq_true rfl) (Nat.le_of_ble_eq_true rfl)) (fun v11 h10 hf => ?_)
  refine s_iastore C dX12_findBox_36 hf (fun h12 hf => ?_)
  refine s_aload_n C dX12_findBox_37 rfl ?_
  refine s_getR C fl_X12_97 dX12_findBox_38 hf (fun v13 hf => ?_)
  refine s_bipush C dX12_findBox_41 (v := (6 : Int32)) (by decide) ?_
  refine s_aload_n C dX12_findBox_43 rfl ?_
  refine s_iload_n C dX12_findBox_44 rfl ?_
  refine s_callV (rvf := fun x => some (.int x)) (st := [.int (6 : Int32), rB (xD X).1 v13]) (fr := 2) (lo := 45) (mc := 0) (ms := 0) C [12] wc_X12_missesOf wml_X12_267 wim_X12_missesOf wsl_12_X12_missesOf dX12_findBox_45 (As := [.inl a1]) rfl hf (fun x h' hF => c_X12_missesOf _ _ _ _ _ (x, h') hF) rfl (Nat.le_of_ble_eq_true rfl) (room_ok hX (Nat.le_of_ble_eq_true rfl) (Nat.le_of_ble_eq_true rfl)) (cell_ok hX (Nat.le_of_ble_eq_true rfl) (Nat.le_of_ble_eq_true rfl)) (fun v15 h14 hf => ?_)
  refine s_iastore C dX12_findBox_48 hf (fun h16 hf => ?_)
  exact s_return C E dX12_findBox_49 hf (Nat.le_of_ble_eq_true rfl) (Nat.le_of_ble_eq_true rfl)
/-- HillBoxesModel.findDay(I)V -/
noncomputable def f_X12_findDay (o : Option Nat) (a1 : Int32) (h : AH) : Option (Unit × AH) :=
  lp (fun _ _ => none) (fun (L2 : Int32 → AH → Option (Unit × AH)) (x1 : Int32) (h2 : AH) =>
    fR h2 [12] o 43 fun v3 =>
    aN h2 20 v3 fun v4 =>
    if v4 ≤ x1 then
      fR h2 [12] o 43 fun v5 =>
      bI h2 20 v5 (0 : Int32) a1 fun h6 =>
      some ((), h6)
    else
      fR h2 [12] o 43 fun v7 =>
      bI h2 20 v7 x1 (0 : Int32) fun h8 =>
      L2 (x1 + 1) h8) lpN (0 : Int32) h
set_option maxRecDepth 100000 in
set_option maxHeartbeats 4000000 in
theorem c_X12_findDay (l : Launch) (D : DT) (o : Option Nat) (a1 : Int32) (h : AH) (r : Unit × AH) (hf : f_X12_findDay o a1 h = some r) : CM l D yX12_findDay cX12_findDay 3 none 0 0 0 0 [.inr (.inr o), .inl a1] h none r.2 := by
  refine CM.of (by decide) (Nat.le_of_ble_eq_true rfl) (fun X hl C hD hX hnm E => ?_)
  subst hl
  subst hD
  have C : CX X RX12 cX12_findDay 3 := C
  show WW X h 0 0 0 [some (rB (xD X).1 o), some (.int a1), none] []
  unfold f_X12_findDay at hf
  refine s_iconst C dX12_findDay_0 (v := (0 : Int32)) (by decide) ?_
  refine s_istore_n C dX12_findDay_1 (by decide) (nc_i rfl) (lv' := [some (rB (xD X).1 o), some (.int a1), some (.int (0 : Int32))]) rfl ?_
  refine s_lp2 hf (fun G2 z2 q2 hf => ?_)
  have k2 : ∀ (n : Nat) (x1 : Int32) (h2 : AH), G2 n x1 h2 = some r → WW X h2 0 0 2 [some (rB (xD X).1 o), some (.int a1), some (.int x1)] [] := by
    intro n
    induction n with
    | zero =>
      intro x1 h2 hf
      rw [z2] at hf
      cases hf
    | succ n ih2 =>
      intro x1 h2 hf
      have hf := (q2 n x1 h2).symm.trans hf
      refine s_iload_n C dX12_findDay_2 rfl ?_
      refine s_aload_n C dX12_findDay_3 rfl ?_
      refine s_getR C fl_X12_97 dX12_findDay_4 hf (fun v3 hf => ?_)
      refine s_alen C dX12_findDay_7 (t := 20) (by decide) hf (fun v4 hf => ?_)
      refine s_icmp_ge (tgt := 24) C dX12_findDay_8 (by decide) hf (fun hf => ?_) (fun hf => ?_)
      · refine s_aload_n C dX12_findDay_24 rfl ?_
        refine s_getR C fl_X12_97 dX12_findDay_25 hf (fun v5 hf => ?_)
        refine s_iconst C dX12_findDay_28 (v := (0 : Int32)) (by decide) ?_
        refine s_iload_n C dX12_findDay_29 rfl ?_
        refine s_iastore C dX12_findDay_30 hf (fun h6 hf => ?_)
        exact s_return C E dX12_findDay_31 hf (Nat.le_of_ble_eq_true rfl) (Nat.le_of_ble_eq_true rfl)
      · refine s_aload_n C dX12_findDay_11 rfl ?_
        refine s_getR C fl_X12_97 dX12_findDay_12 hf (fun v7 hf => ?_)
        refine s_iload_n C dX12_findDay_15 rfl ?_
        refine s_iconst C dX12_findDay_16 (v := (0 : Int32)) (by decide) ?_
        refine s_iastore C dX12_findDay_17 hf (fun h8 hf => ?_)
        refine s_iinc C dX12_findDay_18 (v := (x1 + 1)) rfl rfl (by decide) (nc_i rfl) (lv' := [some (rB (xD X).1 o), some (.int a1), some (.int (x1 + 1))]) rfl ?_
        refine s_goto (tgt := 2) C dX12_findDay_21 (by decide) ?_
        exact ih2 _ _ hf
  exact k2 lpN _ _ hf
/-- HillBoxesModel.ownOf(I)I -/
noncomputable def f_X12_ownOf (o : Option Nat) (a1 : Int32) (h : AH) : Option (Int32 × AH) :=
  lp (fun _ _ _ => none) (fun (L4 : Int32 → Int32 → AH → Option (Int32 × AH)) (x1 : Int32) (x2 : Int32) (h3 : AH) =>
    fI h3 [12] o 3 fun v4 =>
    if v4 ≤ x2 then
      some (x1, h3)
    else
      rO h3 [12] o <| cl (f_X12_isOut o x2 h3) fun v6 h5 =>
      jn (fun (x7 : Int32) =>
        L4 (x1 + x7) (x2 + 1) h5) fun j36 =>
      jn (
        j36 (0 : Int32)) fun j35 =>
      if v6 = 0 then
        j35
      else
        fR h5 [12] o 8 fun v8 =>
        aI h5 20 v8 x2 fun v9 =>
        if v9 = a1 then
          j36 (1 : Int32)
        else
          j35) lpN (0 : Int32) (0 : Int32) h
set_option maxRecDepth 100000 in
set_option maxHeartbeats 4000000 in
theorem c_X12_ownOf (l : Launch) (D : DT) (o : Option Nat) (a1 : Int32) (h : AH) (r : Int32 × AH) (hf : f_X12_ownOf o a1 h = some r) : CM l D yX12_ownOf cX12_ownOf 4 (some .int) 4 85 0 0 [.inr (.inr o), .inl a1] h (some (.int r.1)) r.2 := by
  refine CM.of (by decide) (Nat.le_of_ble_eq_true rfl) (fun X hl C hD hX hnm E => ?_)
  subst hl
  subst hD
  have C : CX X RX12 cX12_ownOf 4 := C
  show WW X h 0 0 0 [some (rB (xD X).1 o), some (.int a1), none, none] []
  unfold f_X12_ownOf at hf
  refine s_iconst C dX12_ownOf_0 (v := (0 : Int32)) (by decide) ?_
  refine s_istore_n C dX12_ownOf_1 (by decide) (nc_i rfl) (lv' := [some (rB (xD X).1 o), some (.int a1), some (.int (0 : Int32)), none]) rfl ?_
  refine s_iconst C dX12_ownOf_2 (v := (0 : Int32)) (by decide) ?_
  refine s_istore_n C dX12_ownOf_3 (by decide) (nc_i rfl) (lv' := [some (rB (xD X).1 o), some (.int a1), some (.int (0 : Int32)), some (.int (0 : Int32))]) rfl ?_
  refine s_lp3 hf (fun G4 z4 q4 hf => ?_)
  have k4 : ∀ (n : Nat) (x1 : Int32) (x2 : Int32) (h3 : AH), G4 n x1 x2 h3 = some r → WW X h3 0 0 4 [some (rB (xD X).1 o), some (.int a1), some (.int x1), some (.int x2)] [] := by
    intro n
    induction n with
    | zero =>
      intro x1 x2 h3 hf
      rw [z4] at hf
      cases hf
    | succ n ih4 =>
      intro x1 x2 h3 hf
      have hf := (q4 n x1 x2 h3).symm.trans hf
      refine s_iload_n C dX12_ownOf_4 rfl ?_
      refine s_aload_n C dX12_ownOf_5 rfl ?_
      refine s_getI C fl_X12_214 dX12_ownOf_6 hf (fun v4 hf => ?_)
      refine s_icmp_ge (tgt := 44) C dX12_ownOf_9 (by decide) hf (fun hf => ?_) (fun hf => ?_)
      · refine s_iload_n C dX12_ownOf_44 rfl ?_
        exact s_ireturn C E dX12_ownOf_45 hf (Nat.le_of_ble_eq_true rfl) (Nat.le_of_ble_eq_true rfl)
      · refine s_iload_n C dX12_ownOf_12 rfl ?_
        refine s_aload_n C dX12_ownOf_13 rfl ?_
        refine s_iload_n C dX12_ownOf_14 rfl ?_
        refine s_callV (rvf := fun x => some (.int x)) (st := [.int x1]) (fr := 3) (lo := 64) (mc := 0) (ms := 0) C [12] wc_X12_isOut wml_X12_255 wim_X12_isOut wsl_12_X12_isOut dX12_ownOf_15 (As := [.inl x2]) rfl hf (fun x h' hF => c_X12_isOut _ _ _ _ _ (x, h') hF) rfl (Nat.le_of_ble_eq_true rfl) (room_ok hX (Nat.le_of_ble_eq_true rfl) (Nat.le_of_ble_eq_true rfl)) (cell_ok hX (Nat.le_of_ble_eq_true rfl) (Nat.le_of_ble_eq_true rfl)) (fun v6 h5 hf => ?_)
        refine s_jn hf (fun j36 e36 hf => ?_)
        have k36 : ∀ (x7 : Int32), j36 x7 = some r → WW X h5 0 0 36 [some (rB (xD X).1 o), some (.int a1), none, some (.int x2)] [.int x7, .int x1] := by
          intro x7 hf
          rw [e36] at hf
          refine s_iadd C dX12_ownOf_36 ?_
          refine s_istore_n C dX12_ownOf_37 (by decide) (nc_i rfl) (lv' := [some (rB (xD X).1 o), some (.int a1), some (.int (x1 + x7)), some (.int x2)]) rfl ?_
          refine s_iinc C dX12_ownOf_38 (v := (x2 + 1)) rfl rfl (by decide) (nc_i rfl) (lv' := [some (rB (xD X).1 o), some (.int a1), some (.int (x1 + x7)), some (.int (x2 + 1))]) rfl ?_
          refine s_goto (tgt := 4) C dX12_ownOf_41 (by decide) ?_
          exact ih4 _ _ _ hf
        refine s_jn hf (fun j35 e35 hf => ?_)
        have k35 : j35  = some r → WW X h5 0 0 35 [some (rB (xD X).1 o), some (.int a1), none, some (.int x2)] [.int x1] := by
          intro  hf
          rw [e35] at hf
          refine s_iconst C dX12_ownOf_35 (v := (0 : Int32)) (by decide) ?_
          exact k36 _ hf
        refine s_if_eq (tgt := 35) C dX12_ownOf_18 (by decide) hf (fun hf => ?_) (fun hf => ?_)
        · refine s_weak (lv' := [some (rB (xD X).1 o), some (.int a1), none, some (.int x2)]) ⟨rfl, ⟨rfl, ⟨rfl, trivial⟩⟩⟩ ?_
          exact k35 hf
        · refine s_aload_n C dX12_ownOf_21 rfl ?_
          refine s_getR C fl_X12_25 dX12_ownOf_22 hf (fun v8 hf => ?_)
          refine s_iload_n C dX12_ownOf_25 rfl ?_
          refine s_iaload C dX12_ownOf_26 hf (fun v9 hf => ?_)
          refine s_iload_n C dX12_ownOf_27 rfl ?_
          refine s_icmp_ne (tgt := 35) C dX12_ownOf_28 (by decide) hf (fun hf => ?_) (fun hf => ?_)
          · refine s_weak (lv' := [some (rB (xD X).1 o), some (.int a1), none, some (.int x2)]) ⟨rfl, ⟨rfl, ⟨rfl, trivial⟩⟩⟩ ?_
            exact k35 hf
          · refine s_iconst C dX12_ownOf_31 (v := (1 : Int32)) (by decide) ?_
            refine s_goto (tgt := 36) C dX12_ownOf_32 (by decide) ?_
            refine s_weak (lv' := [some (rB (xD X).1 o), some (.int a1), none, some (.int x2)]) ⟨rfl, ⟨rfl, ⟨rfl, trivial⟩⟩⟩ ?_
            exact k36 _ hf
  exact k4 lpN _ _ _ hf
