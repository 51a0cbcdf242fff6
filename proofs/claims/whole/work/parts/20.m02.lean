/-- HillBoxes$Logs.isBetweenMisses(I)Z -/
noncomputable def f_X4_isBetweenMisses (o : Option Nat) (a1 : Int32) (h : AH) : Option (Int32 × AH) :=
  lp (fun _ _ _ _ => none) (fun (L7 : Int32 → Int32 → Int32 → AH → Option (Int32 × AH)) (x1 : Int32) (x2 : Int32) (x3 : Int32) (h4 : AH) =>
    fI h4 [4] o 2 fun v5 =>
    if v5 ≤ x3 then
      jn (fun (x6 : Int32) =>
        rz x6 h4) fun j133 =>
      jn (
        j133 (0 : Int32)) fun j132 =>
      if x1 < 0 then
        j132
      else
        if x2 < 0 then
          j132
        else
          fR h4 [4] o 1 fun v7 =>
          aI h4 23 v7 x1 fun v8 =>
          if v8 = 0 then
            fR h4 [4] o 1 fun v9 =>
            aI h4 23 v9 x2 fun v10 =>
            if v10 = 0 then
              j133 (1 : Int32)
            else
              j132
          else
            j132
    else
      jn (fun (x11 : Int32) (x12 : Int32) (h13 : AH) =>
        L7 x11 x12 (x3 + 1) h13) fun j96 =>
      if x3 = a1 then
        j96 x1 x2 h4
      else
        fR h4 [4] o 4 fun v14 =>
        aI h4 20 v14 x3 fun v15 =>
        fR h4 [4] o 4 fun v16 =>
        aI h4 20 v16 a1 fun v17 =>
        if v15 = v17 then
          rO h4 [4] o <| cl (f_X4_isBehind o a1 x3 h4) fun v19 h18 =>
          if v19 = 0 then
            jn (fun (x20 : Int32) (h21 : AH) =>
              j96 x1 x20 h21) fun j95 =>
            jn (fun (h22 : AH) =>
              j95 x3 h22) fun j89 =>
            if x2 < 0 then
              j89 h18
            else
              rO h18 [4] o <| cl (f_X4_isBehind o x2 x3 h18) fun v24 h23 =>
              if v24 = 0 then
                j95 x2 h23
              else
                j89 h23
          else
            jn (fun (x25 : Int32) (h26 : AH) =>
              j96 x25 x2 h26) fun j71 =>
            jn (fun (h27 : AH) =>
              j71 x3 h27) fun j65 =>
            if x1 < 0 then
              j65 h18
            else
              rO h18 [4] o <| cl (f_X4_isBehind o x3 x1 h18) fun v29 h28 =>
              if v29 = 0 then
                j71 x1 h28
              else
                j65 h28
        else
          j96 x1 x2 h4) lpN (-1 : Int32) (-1 : Int32) (0 : Int32) h
set_option maxRecDepth 100000 in
set_option maxHeartbeats 4000000 in
theorem c_X4_isBetweenMisses (l : Launch) (D : DT) (o : Option Nat) (a1 : Int32) (h : AH) (r : Int32 × AH) (hf : f_X4_isBetweenMisses o a1 h = some r) : CM l D yX4_isBetweenMisses cX4_isBetweenMisses 5 (some .boolean) 1 22 0 0 [.inr (.inr o), .inl a1] h (some (.int r.1)) r.2 := by
  refine CM.of (by decide) (Nat.le_of_ble_eq_true rfl) (fun X hl C hD hX hnm E => ?_)
  subst hl
  subst hD
  have C : CX X RX4 cX4_isBetweenMisses 5 := C
  show WW X h 0 0 0 [some (rB (xD X).1 o), some (.int a1), none, none, none] []
  unfold f_X4_isBetweenMisses at hf
  refine s_iconst C dX4_isBetweenMisses_0 (v := (-1 : Int32)) (by decide) ?_
  refine s_istore_n C dX4_isBetweenMisses_1 (by decide) (nc_i rfl) (lv' := [some (rB (xD X).1 o), some (.int a1), some (.int (-1 : Int32)), none, none]) rfl ?_
  refine s_iconst C dX4_isBetweenMisses_2 (v := (-1 : Int32)) (by decide) ?_
  refine s_istore_n C dX4_isBetweenMisses_3 (by decide) (nc_i rfl) (lv' := [some (rB (xD X).1 o), some (.int a1), some (.int (-1 : Int32)), some (.int (-1 : Int32)), none]) rfl ?_
  refine s_iconst C dX4_isBetweenMisses_4 (v := (0 : Int32)) (by decide) ?_
  refine s_istore C dX4_isBetweenMisses_5 (by decide) (nc_i rfl) (lv' := [some (rB (xD X).1 o), some (.int a1), some (.int (-1 : Int32)), some (.int (-1 : Int32)), some (.int (0 : Int32))]) rfl ?_
  refine s_lp4 hf (fun G7 z7 q7 hf => ?_)
  have k7 : ∀ (n : Nat) (x1 : Int32) (x2 : Int32) (x3 : Int32) (h4 : AH), G7 n x1 x2 x3 h4 = some r → WW X h4 0 0 7 [some (rB (xD X).1 o), some (.int a1), some (.int x1), some (.int x2), some (.int x3)] [] := by
    intro n
    induction n with
    | zero =>
      intro x1 x2 x3 h4 hf
      rw [z7] at hf
      cases hf
    | succ n ih7 =>
      intro x1 x2 x3 h4 hf
      have hf := (q7 n x1 x2 x3 h4).symm.trans hf
      refine s_iload C dX4_isBetweenMisses_7 rfl ?_
      refine s_aload_n C dX4_isBetweenMisses_9 rfl ?_
      refine s_getI C fl_X4_39 dX4_isBetweenMisses_10 hf (fun v5 hf => ?_)
      refine s_icmp_ge (tgt := 102) C dX4_isBetweenMisses_13 (by decide) hf (fun hf => ?_) (fun hf => ?_)
      · refine s_iload_n C dX4_isBetweenMisses_102 rfl ?_
        refine s_jn hf (fun j133 e133 hf => ?_)
        have k133 : ∀ (x6 : Int32), j133 x6 = some r → WW X h4 0 0 133 [none, none, none, none, none] [.int x6] := by
          intro x6 hf
          rw [e133] at hf
          exact s_zreturn C E dX4_isBetweenMisses_133 hf (Nat.le_of_ble_eq_true rfl) (Nat.le_of_ble_eq_true rfl)
        refine s_jn hf (fun j132 e132 hf => ?_)
        have k132 : j132  = some r → WW X h4 0 0 132 [none, none, none, none, none] [] := by
          intro  hf
          rw [e132] at hf
          refine s_iconst C dX4_isBetweenMisses_132 (v := (0 : Int32)) (by decide) ?_
          exact k133 _ hf
        refine s_if_lt (tgt := 132) C dX4_isBetweenMisses_103 (by decide) hf (fun hf => ?_) (fun hf => ?_)
        · refine s_weak (lv' := [none, none, none, none, none]) trivial ?_
          exact k132 hf
        · refine s_iload_n C dX4_isBetweenMisses_106 rfl ?_
          refine s_if_lt (tgt := 132) C dX4_isBetweenMisses_107 (by decide) hf (fun hf => ?_) (fun hf => ?_)
          · refine s_weak (lv' := [none, none, none, none, none]) trivial ?_
            exact k132 hf
          · refine s_aload_n C dX4_isBetweenMisses_110 rfl ?_
            refine s_getR C fl_X4_15 dX4_isBetweenMisses_111 hf (fun v7 hf => ?_)
            refine s_iload_n C dX4_isBetweenMisses_114 rfl ?_
            refine s_zaload C dX4_isBetweenMisses_115 hf (fun v8 hf => ?_)
            refine s_if_ne (tgt := 132) C dX4_isBetweenMisses_116 (by decide) hf (fun hf => ?_) (fun hf => ?_)
            · refine s_weak (lv' := [none, none, none, none, none]) trivial ?_
              exact k132 hf
            · refine s_aload_n C dX4_isBetweenMisses_119 rfl ?_
              refine s_getR C fl_X4_15 dX4_isBetweenMisses_120 hf (fun v9 hf => ?_)
              refine s_iload_n C dX4_isBetweenMisses_123 rfl ?_
              refine s_zaload C dX4_isBetweenMisses_124 hf (fun v10 hf => ?_)
              refine s_if_ne (tgt := 132) C dX4_isBetweenMisses_125 (by decide) hf (fun hf => ?_) (fun hf => ?_)
              · refine s_weak (lv' := [none, none, none, none, none]) trivial ?_
                exact k132 hf
              · refine s_iconst C dX4_isBetweenMisses_128 (v := (1 : Int32)) (by decide) ?_
                refine s_goto (tgt := 133) C dX4_isBetweenMisses_129 (by decide) ?_
                refine s_weak (lv' := [none, none, none, none, none]) trivial ?_
                exact k133 _ hf
      · refine s_iload C dX4_isBetweenMisses_16 rfl ?_
        refine s_iload_n C dX4_isBetweenMisses_18 rfl ?_
        refine s_jn hf (fun j96 e96 hf => ?_)
        have k96 : ∀ (x11 : Int32) (x12 : Int32) (h13 : AH), j96 x11 x12 h13 = some r → WW X h13 0 0 96 [some (rB (xD X).1 o), some (.int a1), some (.int x11), some (.int x12), some (.int x3)] [] := by
          intro x11 x12 h13 hf
          rw [e96] at hf
          refine s_iinc C dX4_isBetweenMisses_96 (v := (x3 + 1)) rfl rfl (by decide) (nc_i rfl) (lv' := [some (rB (xD X).1 o), some (.int a1), some (.int x11), some (.int x12), some (.int (x3 + 1))]) rfl ?_
          refine s_goto (tgt := 7) C dX4_isBetweenMisses_99 (by decide) ?_
          exact ih7 _ _ _ _ hf
        refine s_icmp_eq (tgt := 96) C dX4_isBetweenMisses_19 (by decide) hf (fun hf => ?_) (fun hf => ?_)
        · exact k96 _ _ _ hf
        · refine s_aload_n C dX4_isBetweenMisses_22 rfl ?_
          refine s_getR C fl_X4_22 dX4_isBetweenMisses_23 hf (fun v14 hf => ?_)
          refine s_iload C dX4_isBetweenMisses_26 rfl ?_
          refine s_iaload C dX4_isBetweenMisses_28 hf (fun v15 hf => ?_)
          refine s_aload_n C dX4_isBetweenMisses_29 rfl ?_
          refine s_getR C fl_X4_22 dX4_isBetweenMisses_30 hf (fun v16 hf => ?_)
          refine s_iload_n C dX4_isBetweenMisses_33 rfl ?_
          refine s_iaload C dX4_isBetweenMisses_34 hf (fun v17 hf => ?_)
          refine s_icmp_eq (tgt := 41) C dX4_isBetweenMisses_35 (by decide) hf (fun hf => ?_) (fun hf => ?_)
          · refine s_aload_n C dX4_isBetweenMisses_41 rfl ?_
            refine s_iload_n C dX4_isBetweenMisses_42 rfl ?_
            refine s_iload C dX4_isBetweenMisses_43 rfl ?_
            refine s_callV (rvf := fun x => some (.int x)) (st := []) (fr := 0) (lo := 0) (mc := 0) (ms := 0) C [4] wc_X4_isBehind wml_X4_67 wim_X4_isBehind wsl_4_X4_isBehind dX4_isBetweenMisses_45 (As := [.inl a1, .inl x3]) rfl hf (fun x h' hF => c_X4_isBehind _ _ _ _ _ _ (x, h') hF) rfl (Nat.le_of_ble_eq_true rfl) (room_ok hX (Nat.le_of_ble_eq_true rfl) (Nat.le_of_ble_eq_true rfl)) (cell_ok hX (Nat.le_of_ble_eq_true rfl) (Nat.le_of_ble_eq_true rfl)) (fun v19 h18 hf => ?_)
            refine s_if_eq (tgt := 75) C dX4_isBetweenMisses_48 (by decide) hf (fun hf => ?_) (fun hf => ?_)
            · refine s_iload_n C dX4_isBetweenMisses_75 rfl ?_
              refine s_jn hf (fun j95 e95 hf => ?_)
              have k95 : ∀ (x20 : Int32) (h21 : AH), j95 x20 h21 = some r → WW X h21 0 0 95 [some (rB (xD X).1 o), some (.int a1), some (.int x1), none, some (.int x3)] [.int x20] := by
                intro x20 h21 hf
                rw [e95] at hf
                refine s_istore_n C dX4_isBetweenMisses_95 (by decide) (nc_i rfl) (lv' := [some (rB (xD X).1 o), some (.int a1), some (.int x1), some (.int x20), some (.int x3)]) rfl ?_
                exact k96 _ _ _ hf
              refine s_jn hf (fun j89 e89 hf => ?_)
              have k89 : ∀ (h22 : AH), j89 h22 = some r → WW X h22 0 0 89 [some (rB (xD X).1 o), some (.int a1), some (.int x1), none, some (.int x3)] [] := by
                intro h22 hf
                rw [e89] at hf
                refine s_iload C dX4_isBetweenMisses_89 rfl ?_
                refine s_goto (tgt := 95) C dX4_isBetweenMisses_91 (by decide) ?_
                exact k95 _ _ hf
              refine s_if_lt (tgt := 89) C dX4_isBetweenMisses_76 (by decide) hf (fun hf => ?_) (fun hf => ?_)
              · refine s_weak (lv' := [some (rB (xD X).1 o), some (.int a1), some (.int x1), none, some (.int x3)]) ⟨rfl, ⟨rfl, ⟨rfl, ⟨rfl, trivial⟩⟩⟩⟩ ?_
                exact k89 _ hf
              · refine s_aload_n C dX4_isBetweenMisses_79 rfl ?_
                refine s_iload_n C dX4_isBetweenMisses_80 rfl ?_
                refine s_iload C dX4_isBetweenMisses_81 rfl ?_
                refine s_callV (rvf := fun x => some (.int x)) (st := []) (fr := 0) (lo := 0) (mc := 0) (ms := 0) C [4] wc_X4_isBehind wml_X4_67 wim_X4_isBehind wsl_4_X4_isBehind dX4_isBetweenMisses_83 (As := [.inl x2, .inl x3]) rfl hf (fun x h' hF => c_X4_isBehind _ _ _ _ _ _ (x, h') hF) rfl (Nat.le_of_ble_eq_true rfl) (room_ok hX (Nat.le_of_ble_eq_true rfl) (Nat.le_of_ble_eq_true rfl)) (cell_ok hX (Nat.le_of_ble_eq_true rfl) (Nat.le_of_ble_eq_true rfl)) (fun v24 h23 hf => ?_)
                refine s_if_eq (tgt := 94) C dX4_isBetweenMisses_86 (by decide) hf (fun hf => ?_) (fun hf => ?_)
                · refine s_iload_n C dX4_isBetweenMisses_94 rfl ?_
                  refine s_weak (lv' := [some (rB (xD X).1 o), some (.int a1), some (.int x1), none, some (.int x3)]) ⟨rfl, ⟨rfl, ⟨rfl, ⟨rfl, trivial⟩⟩⟩⟩ ?_
                  exact k95 _ _ hf
                · refine s_weak (lv' := [some (rB (xD X).1 o), some (.int a1), some (.int x1), none, some (.int x3)]) ⟨rfl, ⟨rfl, ⟨rfl, ⟨rfl, trivial⟩⟩⟩⟩ ?_
                  exact k89 _ hf
            · refine s_iload_n C dX4_isBetweenMisses_51 rfl ?_
              refine s_jn hf (fun j71 e71 hf => ?_)
              have k71 : ∀ (x25 : Int32) (h26 : AH), j71 x25 h26 = some r → WW X h26 0 0 71 [some (rB (xD X).1 o), some (.int a1), none, some (.int x2), some (.int x3)] [.int x25] := by
                intro x25 h26 hf
                rw [e71] at hf
                refine s_istore_n C dX4_isBetweenMisses_71 (by decide) (nc_i rfl) (lv' := [some (rB (xD X).1 o), some (.int a1), some (.int x25), some (.int x2), some (.int x3)]) rfl ?_
                refine s_goto (tgt := 96) C dX4_isBetweenMisses_72 (by decide) ?_
                exact k96 _ _ _ hf
              refine s_jn hf (fun j65 e65 hf => ?_)
              have k65 : ∀ (h27 : AH), j65 h27 = some r → WW X h27 0 0 65 [some (rB (xD X).1 o), some (.int a1), none, some (.int x2), some (.int x3)] [] := by
                intro h27 hf
                rw [e65] at hf
                refine s_iload C dX4_isBetweenMisses_65 rfl ?_
                refine s_goto (tgt := 71) C dX4_isBetweenMisses_67 (by decide) ?_
                exact k71 _ _ hf
              refine s_if_lt (tgt := 65) C dX4_isBetweenMisses_52 (by decide) hf (fun hf => ?_) (fun hf => ?_)
              · refine s_weak (lv' := [some (rB (xD X).1 o), some (.int a1), none, some (.int x2), some (.int x3)]) ⟨rfl, ⟨rfl, ⟨rfl, ⟨rfl, trivial⟩⟩⟩⟩ ?_
                exact k65 _ hf
              · refine s_aload_n C dX4_isBetweenMisses_55 rfl ?_
                refine s_iload C dX4_isBetweenMisses_56 rfl ?_
                refine s_iload_n C dX4_isBetweenMisses_58 rfl ?_
                refine s_callV (rvf := fun x => some (.int x)) (st := []) (fr := 0) (lo := 0) (mc := 0) (ms := 0) C [4] wc_X4_isBehind wml_X4_67 wim_X4_isBehind wsl_4_X4_isBehind dX4_isBetweenMisses_59 (As := [.inl x3, .inl x1]) rfl hf (fun x h' hF => c_X4_isBehind _ _ _ _ _ _ (x, h') hF) rfl (Nat.le_of_ble_eq_true rfl) (room_ok hX (Nat.le_of_ble_eq_true rfl) (Nat.le_of_ble_eq_true rfl)) (cell_ok hX (Nat.le_of_ble_eq_true rfl) (Nat.le_of_ble_eq_true rfl)) (fun v29 h28 hf => ?_)
                refine s_if_eq (tgt := 70) C dX4_isBetweenMisses_62 (by decide) hf (fun hf => ?_) (fun hf => ?_)
                · refine s_iload_n C dX4_isBetweenMisses_70 rfl ?_
                  refine s_weak (lv' := [some (rB (xD X).1 o), some (.int a1), none, some (.int x2), some (.int x3)]) ⟨rfl, ⟨rfl, ⟨rfl, ⟨rfl, trivial⟩⟩⟩⟩ ?_
                  exact k71 _ _ hf
                · refine s_weak (lv' := [some (rB (xD X).1 o), some (.int a1), none, some (.int x2), some (.int x3)]) ⟨rfl, ⟨rfl, ⟨rfl, ⟨rfl, trivial⟩⟩⟩⟩ ?_
                  exact k65 _ hf
          · refine s_goto (tgt := 96) C dX4_isBetweenMisses_38 (by decide) ?_
            exact k96 _ _ _ hf
  exact k7 lpN _ _ _ _ hf
/-- HillBoxes.hoursBetween(II)I -/
noncomputable def f_X11_hoursBetween (a0 : Int32) (a1 : Int32) (h : AH) : Option (Int32 × AH) :=
  cl (f_X11_far a0 a1 h) fun v2 h1 =>
  nz (2 : Int32) <|
  some (((v2 + (1 : Int32)) / (2 : Int32)), h1)
set_option maxRecDepth 100000 in
set_option maxHeartbeats 4000000 in
theorem c_X11_hoursBetween (l : Launch) (D : DT) (a0 : Int32) (a1 : Int32) (h : AH) (r : Int32 × AH) (hf : f_X11_hoursBetween a0 a1 h = some r) : CM l D yX11_hoursBetween cX11_hoursBetween 2 (some .int) 2 42 0 0 [.inl a0, .inl a1] h (some (.int r.1)) r.2 := by
  refine CM.of (by decide) (Nat.le_of_ble_eq_true rfl) (fun X hl C hD hX hnm E => ?_)
  subst hl
  subst hD
  have C : CX X RX11 cX11_hoursBetween 2 := C
  show WW X h 0 0 0 [some (.int a0), some (.int a1)] []
  unfold f_X11_hoursBetween at hf
  refine s_iload_n C dX11_hoursBetween_0 rfl ?_
  refine s_iload_n C dX11_hoursBetween_1 rfl ?_
  refine s_callS (rvf := fun x => some (.int x)) (st := []) (fr := 1) (lo := 21) (mc := 0) (ms := 0) C wc_X11_far wml_X11_231 wst_X11_far dX11_hoursBetween_2 (As := [.inl a0, .inl a1]) rfl hf (fun x h' hF => c_X11_far _ _ _ _ _ (x, h') hF) rfl (Nat.le_of_ble_eq_true rfl) (room_ok hX (Nat.le_of_ble_eq_true rfl) (Nat.le_of_ble_eq_true rfl)) (cell_ok hX (Nat.le_of_ble_eq_true rfl) (Nat.le_of_ble_eq_true rfl)) (fun v2 h1 hf => ?_)
  refine s_iconst C dX11_hoursBetween_5 (v := (1 : Int32)) (by decide) ?_
  refine s_iadd C dX11_hoursBetween_6 ?_
  refine s_iconst C dX11_hoursBetween_7 (v := (2 : Int32)) (by decide) ?_
  refine s_idiv C dX11_hoursBetween_8 hf (fun hf => ?_)
  exact s_ireturn C E dX11_hoursBetween_9 hf (Nat.le_of_ble_eq_true rfl) (Nat.le_of_ble_eq_true rfl)
/-- HillBoxes$Logs.tooSoonBy(I)I -/
noncomputable def f_X4_tooSoonBy (o : Option Nat) (a1 : Int32) (h : AH) : Option (Int32 × AH) :=
  rO h [4] o <| cl (f_X4_placeOfBox o a1 h) fun v2 h1 =>
  lp (fun _ _ => none) (fun (L8 : Int32 → AH → Option (Int32 × AH)) (x3 : Int32) (h4 : AH) =>
    jn (
      some ((-1 : Int32), h4)) fun j94 =>
    if v2 < 0 then
      j94
    else
      fI h4 [4] o 2 fun v5 =>
      if v5 ≤ x3 then
        j94
      else
        jn (fun (h6 : AH) =>
          L8 (x3 + 1) h6) fun j88 =>
        if x3 = a1 then
          j88 h4
        else
          fR h4 [4] o 1 fun v7 =>
          aI h4 23 v7 x3 fun v8 =>
          if v8 = 0 then
            j88 h4
          else
            fR h4 [4] o 0 fun v9 =>
            aI h4 20 v9 x3 fun v10 =>
            fR h4 [4] o 0 fun v11 =>
            aI h4 20 v11 a1 fun v12 =>
            if v10 = v12 then
              rO h4 [4] o <| cl (f_X4_placeOfBox o x3 h4) fun v14 h13 =>
              if v14 < 0 then
                j88 h13
              else
                fR h13 [4] o 5 fun v15 =>
                aI h13 20 v15 x3 fun v16 =>
                fR h13 [4] o 5 fun v17 =>
                aI h13 20 v17 a1 fun v18 =>
                cl (f_X11_hoursBetween v2 v14 h13) fun v20 h19 =>
                if v20 ≤ (if 0 ≤ (v16 - v18) then (v16 - v18) else 0 - (v16 - v18)) then
                  j88 h19
                else
                  some (x3, h19)
            else
              j88 h4) lpN (0 : Int32) h1
set_option maxRecDepth 100000 in
set_option maxHeartbeats 4000000 in
theorem c_X4_tooSoonBy (l : Launch) (D : DT) (o : Option Nat) (a1 : Int32) (h : AH) (r : Int32 × AH) (hf : f_X4_tooSoonBy o a1 h = some r) : CM l D yX4_tooSoonBy cX4_tooSoonBy 5 (some .int) 3 64 0 0 [.inr (.inr o), .inl a1] h (some (.int r.1)) r.2 := by
  refine CM.of (by decide) (Nat.le_of_ble_eq_true rfl) (fun X hl C hD hX hnm E => ?_)
  subst hl
  subst hD
  have C : CX X RX4 cX4_tooSoonBy 5 := C
  show WW X h 0 0 0 [some (rB (xD X).1 o), some (.int a1), none, none, none] []
  unfold f_X4_tooSoonBy at hf
  refine s_aload_n C dX4_tooSoonBy_0 rfl ?_
  refine s_iload_n C dX4_tooSoonBy_1 rfl ?_
  refine s_callV (rvf := fun x => some (.int x)) (st := []) (fr := 2) (lo := 43) (mc := 0) (ms := 0) C [4] wc_X4_placeOfBox wml_X4_92 wim_X4_placeOfBox wsl_4_X4_placeOfBox dX4_tooSoonBy_2 (As := [.inl a1]) rfl hf (fun x h' hF => c_X4_placeOfBox _ _ _ _ _ (x, h') hF) rfl (Nat.le_of_ble_eq_true rfl) (room_ok hX (Nat.le_of_ble_eq_true rfl) (Nat.le_of_ble_eq_true rfl)) (cell_ok hX (Nat.le_of_ble_eq_true rfl) (Nat.le_of_ble_eq_true rfl)) (fun v2 h1 hf => ?_)
  refine s_istore_n C dX4_tooSoonBy_5 (by decide) (nc_i rfl) (lv' := [some (rB (xD X).1 o), some (.int a1), some (.int v2), none, none]) rfl ?_
  refine s_iconst C dX4_tooSoonBy_6 (v := (0 : Int32)) (by decide) ?_
  refine s_istore_n C dX4_tooSoonBy_7 (by decide) (nc_i rfl) (lv' := [some (rB (xD X).1 o), some (.int a1), some (.int v2), some (.int (0 : Int32)), none]) rfl ?_
  refine s_lp2 hf (fun G8 z8 q8 hf => ?_)
  have k8 : ∀ (n : Nat) (x3 : Int32) (h4 : AH), G8 n x3 h4 = some r → WW X h4 0 0 8 [some (rB (xD X).1 o), some (.int a1), some (.int v2), some (.int x3), none] [] := by
    intro n
    induction n with
    | zero =>
      intro x3 h4 hf
      rw [z8] at hf
      cases hf
    | succ n ih8 =>
      intro x3 h4 hf
      have hf := (q8 n x3 h4).symm.trans hf
      refine s_iload_n C dX4_tooSoonBy_8 rfl ?_
      refine s_jn hf (fun j94 e94 hf => ?_)
      have k94 : j94  = some r → WW X h4 0 0 94 [none, none, none, none, none] [] := by
        intro  hf
        rw [e94] at hf
        refine s_iconst C dX4_tooSoonBy_94 (v := (-1 : Int32)) (by decide) ?_
        exact s_ireturn C E dX4_tooSoonBy_95 hf (Nat.le_of_ble_eq_true rfl) (Nat.le_of_ble_eq_true rfl)
      refine s_if_lt (tgt := 94) C dX4_tooSoonBy_9 (by decide) hf (fun hf => ?_) (fun hf => ?_)
      · refine s_weak (lv' := [none, none, none, none, none]) trivial ?_
        exact k94 hf
      · refine s_iload_n C dX4_tooSoonBy_12 rfl ?_
        refine s_aload_n C dX4_tooSoonBy_13 rfl ?_
        refine s_getI C fl_X4_39 dX4_tooSoonBy_14 hf (fun v5 hf => ?_)
        refine s_icmp_ge (tgt := 94) C dX4_tooSoonBy_17 (by decide) hf (fun hf => ?_) (fun hf => ?_)
        · refine s_weak (lv' := [none, none, none, none, none]) trivial ?_
          exact k94 hf
        · refine s_iload_n C dX4_tooSoonBy_20 rfl ?_
          refine s_iload_n C dX4_tooSoonBy_21 rfl ?_
          refine s_jn hf (fun j88 e88 hf => ?_)
          have k88 : ∀ (h6 : AH), j88 h6 = some r → WW X h6 0 0 88 [some (rB (xD X).1 o), some (.int a1), some (.int v2), some (.int x3), none] [] := by
            intro h6 hf
            rw [e88] at hf
            refine s_iinc C dX4_tooSoonBy_88 (v := (x3 + 1)) rfl rfl (by decide) (nc_i rfl) (lv' := [some (rB (xD X).1 o), some (.int a1), some (.int v2), some (.int (x3 + 1)), none]) rfl ?_
            refine s_goto (tgt := 8) C dX4_tooSoonBy_91 (by decide) ?_
            exact ih8 _ _ hf
          refine s_icmp_eq (tgt := 88) C dX4_tooSoonBy_22 (by decide) hf (fun hf => ?_) (fun hf => ?_)
          · exact k88 _ hf
          · refine s_aload_n C dX4_tooSoonBy_25 rfl ?_
            refine s_getR C fl_X4_15 dX4_tooSoonBy_26 hf (fun v7 hf => ?_)
            refine s_iload_n C dX4_tooSoonBy_29 rfl ?_
            refine s_zaload C dX4_tooSoonBy_30 hf (fun v8 hf => ?_)
            refine s_if_eq (tgt := 88) C dX4_tooSoonBy_31 (by decide) hf (fun hf => ?_) (fun hf => ?_)
            · exact k88 _ hf
            · refine s_aload_n C dX4_tooSoonBy_34 rfl ?_
              refine s_getR C fl_X4_9 dX4_tooSoonBy_35 hf (fun v9 hf => ?_)
              refine s_iload_n C dX4_tooSoonBy_38 rfl ?_
              refine s_iaload C dX4_tooSoonBy_39 hf (fun v10 hf => ?_)
              refine s_aload_n C dX4_tooSoonBy_40 rfl ?_
              refine s_getR C fl_X4_9 dX4_tooSoonBy_41 hf (fun v11 hf => ?_)
              refine s_iload_n C dX4_tooSoonBy_44 rfl ?_
              refine s_iaload C dX4_tooSoonBy_45 hf (fun v12 hf => ?_)
              refine s_icmp_ne (tgt := 88) C dX4_tooSoonBy_46 (by decide) hf (fun hf => ?_) (fun hf => ?_)
              · exact k88 _ hf
              · refine s_aload_n C dX4_tooSoonBy_49 rfl ?_
                refine s_iload_n C dX4_tooSoonBy_50 rfl ?_
                refine s_callV (rvf := fun x => some (.int x)) (st := []) (fr := 2) (lo := 43) (mc := 0) (ms := 0) C [4] wc_X4_placeOfBox wml_X4_92 wim_X4_placeOfBox wsl_4_X4_placeOfBox dX4_tooSoonBy_51 (As := [.inl x3]) rfl hf (fun x h' hF => c_X4_placeOfBox _ _ _ _ _ (x, h') hF) rfl (Nat.le_of_ble_eq_true rfl) (room_ok hX (Nat.le_of_ble_eq_true rfl) (Nat.le_of_ble_eq_true rfl)) (cell_ok hX (Nat.le_of_ble_eq_true rfl) (Nat.le_of_ble_eq_true rfl)) (fun v14 h13 hf => ?_)
                refine s_istore C dX4_tooSoonBy_54 (by decide) (nc_i rfl) (lv' := [some (rB (xD X).1 o), some (.int a1), some (.int v2), some (.int x3), some (.int v14)]) rfl ?_
                refine s_iload C dX4_tooSoonBy_56 rfl ?_
                refine s_if_lt (tgt := 88) C dX4_tooSoonBy_58 (by decide) hf (fun hf => ?_) (fun hf => ?_)
                · refine s_weak (lv' := [some (rB (xD X).1 o), some (.int a1), some (.int v2), some (.int x3), none]) ⟨rfl, ⟨rfl, ⟨rfl, ⟨rfl, trivial⟩⟩⟩⟩ ?_
                  exact k88 _ hf
                · refine s_aload_n C dX4_tooSoonBy_61 rfl ?_
                  refine s_getR C fl_X4_25 dX4_tooSoonBy_62 hf (fun v15 hf => ?_)
                  refine s_iload_n C dX4_tooSoonBy_65 rfl ?_
                  refine s_iaload C dX4_tooSoonBy_66 hf (fun v16 hf => ?_)
                  refine s_aload_n C dX4_tooSoonBy_67 rfl ?_
                  refine s_getR C fl_X4_25 dX4_tooSoonBy_68 hf (fun v17 hf => ?_)
                  refine s_iload_n C dX4_tooSoonBy_71 rfl ?_
                  refine s_iaload C dX4_tooSoonBy_72 hf (fun v18 hf => ?_)
                  refine s_isub C dX4_tooSoonBy_73 ?_
                  refine s_mabs C wml_X4_112 wst_mabs wini_math wcd_mabs dX4_tooSoonBy_74 (Nat.le_of_ble_eq_true rfl) (room_n hX (Nat.le_of_ble_eq_true rfl) (Nat.le_of_ble_eq_true rfl)) (cell_ok hX (Nat.le_of_ble_eq_true rfl) (Nat.le_of_ble_eq_true rfl)) ?_
                  refine s_iload_n C dX4_tooSoonBy_77 rfl ?_
                  refine s_iload C dX4_tooSoonBy_78 rfl ?_
                  refine s_callSN (rvf := fun x => some (.int x)) (st := [.int (if 0 ≤ (v16 - v18) then (v16 - v18) else 0 - (v16 - v18))]) (fr := 2) (lo := 42) (mc := 0) (ms := 0) C wc_X11_hoursBetween wmn_X4_117 wst_X11_hoursBetween dX4_tooSoonBy_80 (As := [.inl v2, .inl v14]) rfl hf (fun x h' hF => c_X11_hoursBetween _ _ _ _ _ (x, h') hF) rfl (Nat.le_of_ble_eq_true rfl) (room_ok hX (Nat.le_of_ble_eq_true rfl) (Nat.le_of_ble_eq_true rfl)) (cell_ok hX (Nat.le_of_ble_eq_true rfl) (Nat.le_of_ble_eq_true rfl)) (fun v20 h19 hf => ?_)
                  refine s_icmp_ge (tgt := 88) C dX4_tooSoonBy_83 (by decide) hf (fun hf => ?_) (fun hf => ?_)
                  · refine s_weak (lv' := [some (rB (xD X).1 o), some (.int a1), some (.int v2), some (.int x3), none]) ⟨rfl, ⟨rfl, ⟨rfl, ⟨rfl, trivial⟩⟩⟩⟩ ?_
                    exact k88 _ hf
                  · refine s_iload_n C dX4_tooSoonBy_86 rfl ?_
                    exact s_ireturn C E dX4_tooSoonBy_87 hf (Nat.le_of_ble_eq_true rfl) (Nat.le_of_ble_eq_true rfl)
  exact k8 lpN _ _ hf
/-- HillBoxes$Logs.whyFalse(I)I -/
noncomputable def f_X4_whyFalse (o : Option Nat) (a1 : Int32) (h : AH) : Option (Int32 × AH) :=
  fR h [4] o 7 fun v1 =>
  fR h [4] o 4 fun v2 =>
  aI h 20 v2 a1 fun v3 =>
  rO h [3] v1 <| cl (f_X3_boxAt v1 v3 h) fun v5 h4 =>
  fR h4 [4] o 1 fun v6 =>
  aI h4 23 v6 a1 fun v7 =>
  jn (
    some ((0 : Int32), h4)) fun j27 =>
  if v7 = 0 then
    j27
  else
    if v5 = none then
      j27
    else
      rO h4 [4] o <| cl (f_X4_placeOfBox o a1 h4) fun v9 h8 =>
      if 0 ≤ v9 then
        rO h8 [4] o <| cl (f_X4_tooSoonBy o a1 h8) fun v11 h10 =>
        if v11 < 0 then
          fI h10 [1] v5 1 fun v12 =>
          jn (fun (h13 : AH) =>
            fI h13 [1] v5 16 fun v14 =>
            jn (fun (x15 : Int32) (h16 : AH) =>
              jn (fun (x17 : Int32) (h18 : AH) =>
                some (x17, h18)) fun j117 =>
              jn (fun (h19 : AH) =>
                j117 (0 : Int32) h19) fun j116 =>
              if x15 = 0 then
                j116 h16
              else
                rO h16 [4] o <| cl (f_X4_isBetweenMisses o a1 h16) fun v21 h20 =>
                if v21 = 0 then
                  j116 h20
                else
                  j117 (4 : Int32) h20) fun j99 =>
            jn (fun (h22 : AH) =>
              j99 (0 : Int32) h22) fun j98 =>
            if v14 = 0 then
              j98 h13
            else
              fR h13 [4] o 0 fun v23 =>
              aI h13 20 v23 a1 fun v24 =>
              rO h13 [1] v5 <| cl (f_X1_isOnPaper v5 v24 h13) fun v26 h25 =>
              if v26 = 0 then
                j99 (1 : Int32) h25
              else
                j98 h25) fun j74 =>
          if v12 = (5 : Int32) then
            fR h10 [4] o 5 fun v27 =>
            aI h10 20 v27 a1 fun v28 =>
            nz (24 : Int32) <|
            cl (f_X11_isNightHour (v28 - v28 / (24 : Int32) * (24 : Int32)) h10) fun v30 h29 =>
            if v30 = 0 then
              some ((3 : Int32), h29)
            else
              j74 h29
          else
            j74 h10
        else
          some ((2 : Int32), h10)
      else
        some ((1 : Int32), h8)
set_option maxRecDepth 100000 in
set_option maxHeartbeats 4000000 in
theorem c_X4_whyFalse (l : Launch) (D : DT) (o : Option Nat) (a1 : Int32) (h : AH) (r : Int32 × AH) (hf : f_X4_whyFalse o a1 h = some r) : CM l D yX4_whyFalse cX4_whyFalse 4 (some .int) 4 88 0 0 [.inr (.inr o), .inl a1] h (some (.int r.1)) r.2 := by
  refine CM.of (by decide) (Nat.le_of_ble_eq_true rfl) (fun X hl C hD hX hnm E => ?_)
  subst hl
  subst hD
  have C : CX X RX4 cX4_whyFalse 4 := C
  show WW X h 0 0 0 [some (rB (xD X).1 o), some (.int a1), none, none] []
  unfold f_X4_whyFalse at hf
  refine s_aload_n C dX4_whyFalse_0 rfl ?_
  refine s_getR C fl_X4_31 dX4_whyFalse_1 hf (fun v1 hf => ?_)
  refine s_aload_n C dX4_whyFalse_4 rfl ?_
  refine s_getR C fl_X4_22 dX4_whyFalse_5 hf (fun v2 hf => ?_)
  refine s_iload_n C dX4_whyFalse_8 rfl ?_
  refine s_iaload C dX4_whyFalse_9 hf (fun v3 hf => ?_)
  refine s_callV (rvf := fun x => some (rB (xD X).1 x)) (st := []) (fr := 0) (lo := 0) (mc := 0) (ms := 0) C [3] wc_X3_boxAt wml_X4_43 wim_X3_boxAt wsl_3_X3_boxAt dX4_whyFalse_10 (As := [.inl v3]) rfl hf (fun x h' hF => c_X3_boxAt _ _ _ _ _ (x, h') hF) rfl (Nat.le_of_ble_eq_true rfl) (room_ok hX (Nat.le_of_ble_eq_true rfl) (Nat.le_of_ble_eq_true rfl)) (cell_ok hX (Nat.le_of_ble_eq_true rfl) (Nat.le_of_ble_eq_true rfl)) (fun v5 h4 hf => ?_)
  refine s_astore_n C dX4_whyFalse_13 (by decide) (nc_i rfl) (lv' := [some (rB (xD X).1 o), some (.int a1), some (rB (xD X).1 v5), none]) rfl ?_
  refine s_aload_n C dX4_whyFalse_14 rfl ?_
  refine s_getR C fl_X4_15 dX4_whyFalse_15 hf (fun v6 hf => ?_)
  refine s_iload_n C dX4_whyFalse_18 rfl ?_
  refine s_zaload C dX4_whyFalse_19 hf (fun v7 hf => ?_)
  refine s_jn hf (fun j27 e27 hf => ?_)
  have k27 : j27  = some r → WW X h4 0 0 27 [none, none, none, none] [] := by
    intro  hf
    rw [e27] at hf
    refine s_iconst C dX4_whyFalse_27 (v := (0 : Int32)) (by decide) ?_
    exact s_ireturn C E dX4_whyFalse_28 hf (Nat.le_of_ble_eq_true rfl) (Nat.le_of_ble_eq_true rfl)
  refine s_if_eq (tgt := 27) C dX4_whyFalse_20 (by decide) hf (fun hf => ?_) (fun hf => ?_)
  · refine s_weak (lv' := [none, none, none, none]) trivial ?_
    exact k27 hf
  · refine s_aload_n C dX4_whyFalse_23 rfl ?_
    refine s_ifnonnull (tgt := 29) C dX4_whyFalse_24 (by decide) hf (fun hf => ?_) (fun hf => ?_)
    · refine s_aload_n C dX4_whyFalse_29 rfl ?_
      refine s_iload_n C dX4_whyFalse_30 rfl ?_
      refine s_callV (rvf := fun x => some (.int x)) (st := []) (fr := 2) (lo := 43) (mc := 0) (ms := 0) C [4] wc_X4_placeOfBox wml_X4_92 wim_X4_placeOfBox wsl_4_X4_placeOfBox dX4_whyFalse_31 (As := [.inl a1]) rfl hf (fun x h' hF => c_X4_placeOfBox _ _ _ _ _ (x, h') hF) rfl (Nat.le_of_ble_eq_true rfl) (room_ok hX (Nat.le_of_ble_eq_true rfl) (Nat.le_of_ble_eq_true rfl)) (cell_ok hX (Nat.le_of_ble_eq_true rfl) (Nat.le_of_ble_eq_true rfl)) (fun v9 h8 hf => ?_)
      refine s_if_ge (tgt := 39) C dX4_whyFalse_34 (by decide) hf (fun hf => ?_) (fun hf => ?_)
      · refine s_aload_n C dX4_whyFalse_39 rfl ?_
        refine s_iload_n C dX4_whyFalse_40 rfl ?_
        refine s_callV (rvf := fun x => some (.int x)) (st := []) (fr := 3) (lo := 64) (mc := 0) (ms := 0) C [4] wc_X4_tooSoonBy wml_X4_96 wim_X4_tooSoonBy wsl_4_X4_tooSoonBy dX4_whyFalse_41 (As := [.inl a1]) rfl hf (fun x h' hF => c_X4_tooSoonBy _ _ _ _ _ (x, h') hF) rfl (Nat.le_of_ble_eq_true rfl) (room_ok hX (Nat.le_of_ble_eq_true rfl) (Nat.le_of_ble_eq_true rfl)) (cell_ok hX (Nat.le_of_ble_eq_true rfl) (Nat.le_of_ble_eq_true rfl)) (fun v11 h10 hf => ?_)
        refine s_if_lt (tgt := 49) C dX4_whyFalse_44 (by decide) hf (fun hf => ?_) (fun hf => ?_)
        · refine s_aload_n C dX4_whyFalse_49 rfl ?_
          refine s_getI C fl_X4_99 dX4_whyFalse_50 hf (fun v12 hf => ?_)
          refine s_iconst C dX4_whyFalse_53 (v := (5 : Int32)) (by decide) ?_
          refine s_jn hf (fun j74 e74 hf => ?_)
          have k74 : ∀ (h13 : AH), j74 h13 = some r → WW X h13 0 0 74 [some (rB (xD X).1 o), some (.int a1), some (rB (xD X).1 v5), none] [] := by
            intro h13 hf
            rw [e74] at hf
            refine s_aload_n C dX4_whyFalse_74 rfl ?_
            refine s_getI C fl_X4_105 dX4_whyFalse_75 hf (fun v14 hf => ?_)
            refine s_jn hf (fun j99 e99 hf => ?_)
            have k99 : ∀ (x15 : Int32) (h16 : AH), j99 x15 h16 = some r → WW X h16 0 0 99 [some (rB (xD X).1 o), some (.int a1), none, none] [.int x15] := by
              intro x15 h16 hf
              rw [e99] at hf
              refine s_istore_n C dX4_whyFalse_99 (by decide) (nc_n rfl) (lv' := [some (rB (xD X).1 o), some (.int a1), none, some (.int x15)]) rfl ?_
              refine s_iload_n C dX4_whyFalse_100 rfl ?_
              refine s_jn hf (fun j117 e117 hf => ?_)
              have k117 : ∀ (x17 : Int32) (h18 : AH), j117 x17 h18 = some r → WW X h18 0 0 117 [none, none, none, none] [.int x17] := by
                intro x17 h18 hf
                rw [e117] at hf
                exact s_ireturn C E dX4_whyFalse_117 hf (Nat.le_of_ble_eq_true rfl) (Nat.le_of_ble_eq_true rfl)
              refine s_jn hf (fun j116 e116 hf => ?_)
              have k116 : ∀ (h19 : AH), j116 h19 = some r → WW X h19 0 0 116 [none, none, none, none] [] := by
                intro h19 hf
                rw [e116] at hf
                refine s_iconst C dX4_whyFalse_116 (v := (0 : Int32)) (by decide) ?_
                exact k117 _ _ hf
              refine s_if_eq (tgt := 116) C dX4_whyFalse_101 (by decide) hf (fun hf => ?_) (fun hf => ?_)
              · refine s_weak (lv' := [none, none, none, none]) trivial ?_
                exact k116 _ hf
              · refine s_aload_n C dX4_whyFalse_104 rfl ?_
                refine s_iload_n C dX4_whyFalse_105 rfl ?_
                refine s_callV (rvf := fun x => some (.int x)) (st := []) (fr := 1) (lo := 22) (mc := 0) (ms := 0) C [4] wc_X4_isBetweenMisses wml_X4_109 wim_X4_isBetweenMisses wsl_4_X4_isBetweenMisses dX4_whyFalse_106 (As := [.inl a1]) rfl hf (fun x h' hF => c_X4_isBetweenMisses _ _ _ _ _ (x, h') hF) rfl (Nat.le_of_ble_eq_true rfl) (room_ok hX (Nat.le_of_ble_eq_true rfl) (Nat.le_of_ble_eq_true rfl)) (cell_ok hX (Nat.le_of_ble_eq_true rfl) (Nat.le_of_ble_eq_true rfl)) (fun v21 h20 hf => ?_)
                refine s_if_eq (tgt := 116) C dX4_whyFalse_109 (by decide) hf (fun hf => ?_) (fun hf => ?_)
                · refine s_weak (lv' := [none, none, none, none]) trivial ?_
                  exact k116 _ hf
                · refine s_iconst C dX4_whyFalse_112 (v := (4 : Int32)) (by decide) ?_
                  refine s_goto (tgt := 117) C dX4_whyFalse_113 (by decide) ?_
                  refine s_weak (lv' := [none, none, none, none]) trivial ?_
                  exact k117 _ _ hf
            refine s_jn hf (fun j98 e98 hf => ?_)
            have k98 : ∀ (h22 : AH), j98 h22 = some r → WW X h22 0 0 98 [some (rB (xD X).1 o), some (.int a1), none, none] [] := by
              intro h22 hf
              rw [e98] at hf
              refine s_iconst C dX4_whyFalse_98 (v := (0 : Int32)) (by decide) ?_
              exact k99 _ _ hf
            refine s_if_eq (tgt := 98) C dX4_whyFalse_78 (by decide) hf (fun hf => ?_) (fun hf => ?_)
            · refine s_weak (lv' := [some (rB (xD X).1 o), some (.int a1), none, none]) ⟨rfl, ⟨rfl, trivial⟩⟩ ?_
              exact k98 _ hf
            · refine s_aload_n C dX4_whyFalse_81 rfl ?_
              refine s_aload_n C dX4_whyFalse_82 rfl ?_
              refine s_getR C fl_X4_9 dX4_whyFalse_83 hf (fun v23 hf => ?_)
              refine s_iload_n C dX4_whyFalse_86 rfl ?_
              refine s_iaload C dX4_whyFalse_87 hf (fun v24 hf => ?_)
              refine s_callV (rvf := fun x => some (.int x)) (st := []) (fr := 0) (lo := 0) (mc := 0) (ms := 0) C [1] wc_X1_isOnPaper wml_X4_75 wim_X1_isOnPaper wsl_1_X1_isOnPaper dX4_whyFalse_88 (As := [.inl v24]) rfl hf (fun x h' hF => c_X1_isOnPaper _ _ _ _ _ (x, h') hF) rfl (Nat.le_of_ble_eq_true rfl) (room_ok hX (Nat.le_of_ble_eq_true rfl) (Nat.le_of_ble_eq_true rfl)) (cell_ok hX (Nat.le_of_ble_eq_true rfl) (Nat.le_of_ble_eq_true rfl)) (fun v26 h25 hf => ?_)
              refine s_if_ne (tgt := 98) C dX4_whyFalse_91 (by decide) hf (fun hf => ?_) (fun hf => ?_)
              · refine s_weak (lv' := [some (rB (xD X).1 o), some (.int a1), none, none]) ⟨rfl, ⟨rfl, trivial⟩⟩ ?_
                exact k98 _ hf
              · refine s_iconst C dX4_whyFalse_94 (v := (1 : Int32)) (by decide) ?_
                refine s_goto (tgt := 99) C dX4_whyFalse_95 (by decide) ?_
                refine s_weak (lv' := [some (rB (xD X).1 o), some (.int a1), none, none]) ⟨rfl, ⟨rfl, trivial⟩⟩ ?_
                exact k99 _ _ hf
          refine s_icmp_ne (tgt := 74) C dX4_whyFalse_54 (by decide) hf (fun hf => ?_) (fun hf => ?_)
          · exact k74 _ hf
          · refine s_aload_n C dX4_whyFalse_57 rfl ?_
            refine s_getR C fl_X4_25 dX4_whyFalse_58 hf (fun v27 hf => ?_)
            refine s_iload_n C dX4_whyFalse_61 rfl ?_
            refine s_iaload C dX4_whyFalse_62 hf (fun v28 hf => ?_)
            refine s_bipush C dX4_whyFalse_63 (v := (24 : Int32)) (by decide) ?_
            refine s_irem C dX4_whyFalse_65 hf (fun hf => ?_)
            refine s_callSN (rvf := fun x => some (.int x)) (st := []) (fr := 0) (lo := 0) (mc := 0) (ms := 0) C wc_X11_isNightHour wmn_X4_102 wst_X11_isNightHour dX4_whyFalse_66 (As := [.inl (v28 - v28 / (24 : Int32) * (24 : Int32))]) rfl hf (fun x h' hF => c_X11_isNightHour _ _ _ _ (x, h') hF) rfl (Nat.le_of_ble_eq_true rfl) (room_ok hX (Nat.le_of_ble_eq_true rfl) (Nat.le_of_ble_eq_true rfl)) (cell_ok hX (Nat.le_of_ble_eq_true rfl) (Nat.le_of_ble_eq_true rfl)) (fun v30 h29 hf => ?_)
            refine s_if_ne (tgt := 74) C dX4_whyFalse_69 (by decide) hf (fun hf => ?_) (fun hf => ?_)
            · exact k74 _ hf
            · refine s_iconst C dX4_whyFalse_72 (v := (3 : Int32)) (by decide) ?_
              exact s_ireturn C E dX4_whyFalse_73 hf (Nat.le_of_ble_eq_true rfl) (Nat.le_of_ble_eq_true rfl)
        · refine s_iconst C dX4_whyFalse_47 (v := (2 : Int32)) (by decide) ?_
          exact s_ireturn C E dX4_whyFalse_48 hf (Nat.le_of_ble_eq_true rfl) (Nat.le_of_ble_eq_true rfl)
      · refine s_iconst C dX4_whyFalse_37 (v := (1 : Int32)) (by decide) ?_
        exact s_ireturn C E dX4_whyFalse_38 hf (Nat.le_of_ble_eq_true rfl) (Nat.le_of_ble_eq_true rfl)
    · refine s_weak (lv' := [none, none, none, none]) trivial ?_
      exact k27 hf
/-- HillBoxes$Logs.chanceOf(Z)I -/
noncomputable def f_X4_chanceOf (o : Option Nat) (a1 : Int32) (h : AH) : Option (Int32 × AH) :=
  lp (fun _ _ _ => none) (fun (L4 : Int32 → Int32 → AH → Option (Int32 × AH)) (x1 : Int32) (x2 : Int32) (h3 : AH) =>
    fI h3 [4] o 2 fun v4 =>
    if v4 ≤ x2 then
      some (x1, h3)
    else
      fR h3 [4] o 1 fun v5 =>
      aI h3 23 v5 x2 fun v6 =>
      jn (fun (x7 : Int32) (h8 : AH) =>
        L4 x7 (x2 + 1) h8) fun j45 =>
      if v6 = 0 then
        j45 x1 h3
      else
        rO h3 [4] o <| cl (f_X4_hasAnotherFound o x2 h3) fun v10 h9 =>
        if v10 = 0 then
          j45 x1 h9
        else
          jn (fun (h11 : AH) =>
            j45 (x1 + 1) h11) fun j42 =>
          if a1 = 0 then
            j42 h9
          else
            rO h9 [4] o <| cl (f_X4_whyFalse o x2 h9) fun v13 h12 =>
            if v13 = (2 : Int32) then
              j42 h12
            else
              j45 x1 h12) lpN (0 : Int32) (0 : Int32) h
set_option maxRecDepth 100000 in
set_option maxHeartbeats 4000000 in
theorem c_X4_chanceOf (l : Launch) (D : DT) (o : Option Nat) (a1 : Int32) (h : AH) (r : Int32 × AH) (hf : f_X4_chanceOf o a1 h = some r) : CM l D yX4_chanceOf cX4_chanceOf 4 (some .int) 5 111 0 0 [.inr (.inr o), .inl a1] h (some (.int r.1)) r.2 := by
  refine CM.of (by decide) (Nat.le_of_ble_eq_true rfl) (fun X hl C hD hX hnm E => ?_)
  subst hl
  subst hD
  have C : CX X RX4 cX4_chanceOf 4 := C
  show WW X h 0 0 0 [some (rB (xD X).1 o), some (.int a1), none, none] []
  unfold f_X4_chanceOf at hf
  refine s_iconst C dX4_chanceOf_0 (v := (0 : Int32)) (by decide) ?_
  refine s_istore_n C dX4_chanceOf_1 (by decide) (nc_i rfl) (lv' := [some (rB (xD X).1 o), some (.int a1), some (.int (0 : Int32)), none]) rfl ?_
  refine s_iconst C dX4_chanceOf_2 (v := (0 : Int32)) (by decide) ?_
  refine s_istore_n C dX4_chanceOf_3 (by decide) (nc_i rfl) (lv' := [some (rB (xD X).1 o), some (.int a1), some (.int (0 : Int32)), some (.int (0 : Int32))]) rfl ?_
  refine s_lp3 hf (fun G4 z4 q4 hf => ?_)
  have k4 : ∀ (n : Nat) (x1 : Int32) (x2 : Int32) (h3 : AH), G4 n x1 x2 h3 = some r → WW X h3 0 0 4 [some (rB (xD X).1 o), some (.int a1), some (.int x1), some (.int x2)] [] := by
    intro n
    induction n with
    | zero =>
      intro x1 x2 h3 hf
      rw [z4] at hf
      cases hf
    | succ n ih4 =>
      intro x1 x2 h3 hf
      have hf := (q4 n x1 x2 h3).symm.trans hf
      refine s_iload_n C dX4_chanceOf_4 rfl ?_
      refine s_aload_n C dX4_chanceOf_5 rfl ?_
      refine s_getI C fl_X4_39 dX4_chanceOf_6 hf (fun v4 hf => ?_)
      refine s_icmp_ge (tgt := 51) C dX4_chanceOf_9 (by decide) hf (fun hf => ?_) (fun hf => ?_)
      · refine s_iload_n C dX4_chanceOf_51 rfl ?_
        exact s_ireturn C E dX4_chanceOf_52 hf (Nat.le_of_ble_eq_true rfl) (Nat.le_of_ble_eq_true rfl)
      · refine s_aload_n C dX4_chanceOf_12 rfl ?_
        refine s_getR C fl_X4_15 dX4_chanceOf_13 hf (fun v5 hf => ?_)
        refine s_iload_n C dX4_chanceOf_16 rfl ?_
        refine s_zaload C dX4_chanceOf_17 hf (fun v6 hf => ?_)
        refine s_jn hf (fun j45 e45 hf => ?_)
        have k45 : ∀ (x7 : Int32) (h8 : AH), j45 x7 h8 = some r → WW X h8 0 0 45 [some (rB (xD X).1 o), some (.int a1), some (.int x7), some (.int x2)] [] := by
          intro x7 h8 hf
          rw [e45] at hf
          refine s_iinc C dX4_chanceOf_45 (v := (x2 + 1)) rfl rfl (by decide) (nc_i rfl) (lv' := [some (rB (xD X).1 o), some (.int a1), some (.int x7), some (.int (x2 + 1))]) rfl ?_
          refine s_goto (tgt := 4) C dX4_chanceOf_48 (by decide) ?_
          exact ih4 _ _ _ hf
        refine s_if_eq (tgt := 45) C dX4_chanceOf_18 (by decide) hf (fun hf => ?_) (fun hf => ?_)
        · exact k45 _ _ hf
        · refine s_aload_n C dX4_chanceOf_21 rfl ?_
          refine s_iload_n C dX4_chanceOf_22 rfl ?_
          refine s_callV (rvf := fun x => some (.int x)) (st := []) (fr := 0) (lo := 0) (mc := 0) (ms := 0) C [4] wc_X4_hasAnotherFound wml_X4_124 wim_X4_hasAnotherFound wsl_4_X4_hasAnotherFound dX4_chanceOf_23 (As := [.inl x2]) rfl hf (fun x h' hF => c_X4_hasAnotherFound _ _ _ _ _ (x, h') hF) rfl (Nat.le_of_ble_eq_true rfl) (room_ok hX (Nat.le_of_ble_eq_true rfl) (Nat.le_of_ble_eq_true rfl)) (cell_ok hX (Nat.le_of_ble_eq_true rfl) (Nat.le_of_ble_eq_true rfl)) (fun v10 h9 hf => ?_)
          refine s_if_eq (tgt := 45) C dX4_chanceOf_26 (by decide) hf (fun hf => ?_) (fun hf => ?_)
          · exact k45 _ _ hf
          · refine s_iload_n C dX4_chanceOf_29 rfl ?_
            refine s_jn hf (fun j42 e42 hf => ?_)
            have k42 : ∀ (h11 : AH), j42 h11 = some r → WW X h11 0 0 42 [some (rB (xD X).1 o), some (.int a1), some (.int x1), some (.int x2)] [] := by
              intro h11 hf
              rw [e42] at hf
              refine s_iinc C dX4_chanceOf_42 (v := (x1 + 1)) rfl rfl (by decide) (nc_i rfl) (lv' := [some (rB (xD X).1 o), some (.int a1), some (.int (x1 + 1)), some (.int x2)]) rfl ?_
              exact k45 _ _ hf
            refine s_if_eq (tgt := 42) C dX4_chanceOf_30 (by decide) hf (fun hf => ?_) (fun hf => ?_)
            · exact k42 _ hf
            · refine s_aload_n C dX4_chanceOf_33 rfl ?_
              refine s_iload_n C dX4_chanceOf_34 rfl ?_
              refine s_callV (rvf := fun x => some (.int x)) (st := []) (fr := 4) (lo := 88) (mc := 0) (ms := 0) C [4] wc_X4_whyFalse wml_X4_127 wim_X4_whyFalse wsl_4_X4_whyFalse dX4_chanceOf_35 (As := [.inl x2]) rfl hf (fun x h' hF => c_X4_whyFalse _ _ _ _ _ (x, h') hF) rfl (Nat.le_of_ble_eq_true rfl) (room_ok hX (Nat.le_of_ble_eq_true rfl) (Nat.le_of_ble_eq_true rfl)) (cell_ok hX (Nat.le_of_ble_eq_true rfl) (Nat.le_of_ble_eq_true rfl)) (fun v13 h12 hf => ?_)
              refine s_iconst C dX4_chanceOf_38 (v := (2 : Int32)) (by decide) ?_
              refine s_icmp_ne (tgt := 45) C dX4_chanceOf_39 (by decide) hf (fun hf => ?_) (fun hf => ?_)
              · exact k45 _ _ hf
              · exact k42 _ hf
  exact k4 lpN _ _ _ hf
/-- HillBoxes.chance(I)I -/
noncomputable def f_X11_chance (o : Option Nat) (a1 : Int32) (h : AH) : Option (Int32 × AH) :=
  jn (
    some ((-1 : Int32), h)) fun j9 =>
  if a1 < 0 then
    j9
  else
    if a1 ≤ (1 : Int32) then
      fR h [11] o 2 fun v1 =>
      jn (fun (x2 : Int32) =>
        rO h [4] v1 <| cl (f_X4_chanceOf v1 x2 h) fun v4 h3 =>
        some (v4, h3)) fun j25 =>
      if a1 = (1 : Int32) then
        j25 (1 : Int32)
      else
        j25 (0 : Int32)
    else
      j9
set_option maxRecDepth 100000 in
set_option maxHeartbeats 4000000 in
theorem c_X11_chance (l : Launch) (D : DT) (o : Option Nat) (a1 : Int32) (h : AH) (r : Int32 × AH) (hf : f_X11_chance o a1 h = some r) : CM l D yX11_chance cX11_chance 2 (some .int) 6 134 0 0 [.inr (.inr o), .inl a1] h (some (.int r.1)) r.2 := by
  refine CM.of (by decide) (Nat.le_of_ble_eq_true rfl) (fun X hl C hD hX hnm E => ?_)
  subst hl
  subst hD
  have C : CX X RX11 cX11_chance 2 := C
  show WW X h 0 0 0 [some (rB (xD X).1 o), some (.int a1)] []
  unfold f_X11_chance at hf
  refine s_iload_n C dX11_chance_0 rfl ?_
  refine s_jn hf (fun j9 e9 hf => ?_)
  have k9 : j9  = some r → WW X h 0 0 9 [none, none] [] := by
    intro  hf
    rw [e9] at hf
    refine s_iconst C dX11_chance_9 (v := (-1 : Int32)) (by decide) ?_
    exact s_ireturn C E dX11_chance_10 hf (Nat.le_of_ble_eq_true rfl) (Nat.le_of_ble_eq_true rfl)
  refine s_if_lt (tgt := 9) C dX11_chance_1 (by decide) hf (fun hf => ?_) (fun hf => ?_)
  · refine s_weak (lv' := [none, none]) trivial ?_
    exact k9 hf
  · refine s_iload_n C dX11_chance_4 rfl ?_
    refine s_iconst C dX11_chance_5 (v := (1 : Int32)) (by decide) ?_
    refine s_icmp_le (tgt := 11) C dX11_chance_6 (by decide) hf (fun hf => ?_) (fun hf => ?_)
    · refine s_aload_n C dX11_chance_11 rfl ?_
      refine s_getR C fl_X11_30 dX11_chance_12 hf (fun v1 hf => ?_)
      refine s_iload_n C dX11_chance_15 rfl ?_
      refine s_iconst C dX11_chance_16 (v := (1 : Int32)) (by decide) ?_
      refine s_jn hf (fun j25 e25 hf => ?_)
      have k25 : ∀ (x2 : Int32), j25 x2 = some r → WW X h 0 0 25 [none, none] [.int x2, rB (xD X).1 v1] := by
        intro x2 hf
        rw [e25] at hf
        refine s_callV (rvf := fun x => some (.int x)) (st := []) (fr := 5) (lo := 111) (mc := 0) (ms := 0) C [4] wc_X4_chanceOf wml_X11_332 wim_X4_chanceOf wsl_4_X4_chanceOf dX11_chance_25 (As := [.inl x2]) rfl hf (fun x h' hF => c_X4_chanceOf _ _ _ _ _ (x, h') hF) rfl (Nat.le_of_ble_eq_true rfl) (room_ok hX (Nat.le_of_ble_eq_true rfl) (Nat.le_of_ble_eq_true rfl)) (cell_ok hX (Nat.le_of_ble_eq_true rfl) (Nat.le_of_ble_eq_true rfl)) (fun v4 h3 hf => ?_)
        exact s_ireturn C E dX11_chance_28 hf (Nat.le_of_ble_eq_true rfl) (Nat.le_of_ble_eq_true rfl)
      refine s_icmp_ne (tgt := 24) C dX11_chance_17 (by decide) hf (fun hf => ?_) (fun hf => ?_)
      · refine s_iconst C dX11_chance_24 (v := (0 : Int32)) (by decide) ?_
        refine s_weak (lv' := [none, none]) trivial ?_
        exact k25 _ hf
      · refine s_iconst C dX11_chance_20 (v := (1 : Int32)) (by decide) ?_
        refine s_goto (tgt := 25) C dX11_chance_21 (by decide) ?_
        refine s_weak (lv' := [none, none]) trivial ?_
        exact k25 _ hf
    · refine s_weak (lv' := [none, none]) trivial ?_
      exact k9 hf
/-- HillBoxes.countBoxes(Z)I -/
noncomputable def f_X11_countBoxes (o : Option Nat) (a1 : Int32) (h : AH) : Option (Int32 × AH) :=
  lp (fun _ _ _ => none) (fun (L4 : Int32 → Int32 → AH → Option (Int32 × AH)) (x1 : Int32) (x2 : Int32) (h3 : AH) =>
    fR h3 [11] o 0 fun v4 =>
    fI h3 [3] v4 3 fun v5 =>
    if v5 ≤ x2 then
      some (x1, h3)
    else
      fR h3 [11] o 0 fun v6 =>
      rO h3 [3] v6 <| cl (f_X3_boxAt v6 x2 h3) fun v8 h7 =>
      jn (fun (x9 : Int32) (h10 : AH) =>
        L4 x9 (x2 + 1) h10) fun j45 =>
      if v8 = none then
        j45 x1 h7
      else
        jn (fun (h11 : AH) =>
          j45 (x1 + 1) h11) fun j42 =>
        if a1 = 0 then
          j42 h7
        else
          rO h7 [1] v8 <| cl (f_X1_isDown v8 h7) fun v13 h12 =>
          if v13 = 0 then
            j42 h12
          else
            j45 x1 h12) lpN (0 : Int32) (0 : Int32) h
set_option maxRecDepth 100000 in
set_option maxHeartbeats 4000000 in
theorem c_X11_countBoxes (l : Launch) (D : DT) (o : Option Nat) (a1 : Int32) (h : AH) (r : Int32 × AH) (hf : f_X11_countBoxes o a1 h = some r) : CM l D yX11_countBoxes cX11_countBoxes 5 (some .int) 1 22 0 0 [.inr (.inr o), .inl a1] h (some (.int r.1)) r.2 := by
  refine CM.of (by decide) (Nat.le_of_ble_eq_true rfl) (fun X hl C hD hX hnm E => ?_)
  subst hl
  subst hD
  have C : CX X RX11 cX11_countBoxes 5 := C
  show WW X h 0 0 0 [some (rB (xD X).1 o), some (.int a1), none, none, none] []
  unfold f_X11_countBoxes at hf
  refine s_iconst C dX11_countBoxes_0 (v := (0 : Int32)) (by decide) ?_
  refine s_istore_n C dX11_countBoxes_1 (by decide) (nc_i rfl) (lv' := [some (rB (xD X).1 o), some (.int a1), some (.int (0 : Int32)), none, none]) rfl ?_
  refine s_iconst C dX11_countBoxes_2 (v := (0 : Int32)) (by decide) ?_
  refine s_istore_n C dX11_countBoxes_3 (by decide) (nc_i rfl) (lv' := [some (rB (xD X).1 o), some (.int a1), some (.int (0 : Int32)), some (.int (0 : Int32)), none]) rfl ?_
  refine s_lp3 hf (fun G4 z4 q4 hf => ?_)
  have k4 : ∀ (n : Nat) (x1 : Int32) (x2 : Int32) (h3 : AH), G4 n x1 x2 h3 = some r → WW X h3 0 0 4 [some (rB (xD X).1 o), some (.int a1), some (.int x1), some (.int x2), none] [] := by
    intro n
    induction n with
    | zero =>
      intro x1 x2 h3 hf
      rw [z4] at hf
      cases hf
    | succ n ih4 =>
      intro x1 x2 h3 hf
      have hf := (q4 n x1 x2 h3).symm.trans hf
      refine s_iload_n C dX11_countBoxes_4 rfl ?_
      refine s_aload_n C dX11_countBoxes_5 rfl ?_
      refine s_getR C fl_X11_10 dX11_countBoxes_6 hf (fun v4 hf => ?_)
      refine s_getI C fl_X11_70 dX11_countBoxes_9 hf (fun v5 hf => ?_)
      refine s_icmp_ge (tgt := 51) C dX11_countBoxes_12 (by decide) hf (fun hf => ?_) (fun hf => ?_)
      · refine s_iload_n C dX11_countBoxes_51 rfl ?_
        exact s_ireturn C E dX11_countBoxes_52 hf (Nat.le_of_ble_eq_true rfl) (Nat.le_of_ble_eq_true rfl)
      · refine s_aload_n C dX11_countBoxes_15 rfl ?_
        refine s_getR C fl_X11_10 dX11_countBoxes_16 hf (fun v6 hf => ?_)
        refine s_iload_n C dX11_countBoxes_19 rfl ?_
        refine s_callV (rvf := fun x => some (rB (xD X).1 x)) (st := []) (fr := 0) (lo := 0) (mc := 0) (ms := 0) C [3] wc_X3_boxAt wml_X11_130 wim_X3_boxAt wsl_3_X3_boxAt dX11_countBoxes_20 (As := [.inl x2]) rfl hf (fun x h' hF => c_X3_boxAt _ _ _ _ _ (x, h') hF) rfl (Nat.le_of_ble_eq_true rfl) (room_ok hX (Nat.le_of_ble_eq_true rfl) (Nat.le_of_ble_eq_true rfl)) (cell_ok hX (Nat.le_of_ble_eq_true rfl) (Nat.le_of_ble_eq_true rfl)) (fun v8 h7 hf => ?_)
        refine s_astore C dX11_countBoxes_23 (by decide) (nc_i rfl) (lv' := [some (rB (xD X).1 o), some (.int a1), some (.int x1), some (.int x2), some (rB (xD X).1 v8)]) rfl ?_
        refine s_aload C dX11_countBoxes_25 rfl ?_
        refine s_jn hf (fun j45 e45 hf => ?_)
        have k45 : ∀ (x9 : Int32) (h10 : AH), j45 x9 h10 = some r → WW X h10 0 0 45 [some (rB (xD X).1 o), some (.int a1), some (.int x9), some (.int x2), none] [] := by
          intro x9 h10 hf
          rw [e45] at hf
          refine s_iinc C dX11_countBoxes_45 (v := (x2 + 1)) rfl rfl (by decide) (nc_i rfl) (lv' := [some (rB (xD X).1 o), some (.int a1), some (.int x9), some (.int (x2 + 1)), none]) rfl ?_
          refine s_goto (tgt := 4) C dX11_countBoxes_48 (by decide) ?_
          exact ih4 _ _ _ hf
        refine s_ifnull (tgt := 45) C dX11_countBoxes_27 (by decide) hf (fun hf => ?_) (fun hf => ?_)
        · refine s_weak (lv' := [some (rB (xD X).1 o), some (.int a1), some (.int x1), some (.int x2), none]) ⟨rfl, ⟨rfl, ⟨rfl, ⟨rfl, trivial⟩⟩⟩⟩ ?_
          exact k45 _ _ hf
        · refine s_iload_n C dX11_countBoxes_30 rfl ?_
          refine s_jn hf (fun j42 e42 hf => ?_)
          have k42 : ∀ (h11 : AH), j42 h11 = some r → WW X h11 0 0 42 [some (rB (xD X).1 o), some (.int a1), some (.int x1), some (.int x2), none] [] := by
            intro h11 hf
            rw [e42] at hf
            refine s_iinc C dX11_countBoxes_42 (v := (x1 + 1)) rfl rfl (by decide) (nc_i rfl) (lv' := [some (rB (xD X).1 o), some (.int a1), some (.int (x1 + 1)), some (.int x2), none]) rfl ?_
            exact k45 _ _ hf
          refine s_if_eq (tgt := 42) C dX11_countBoxes_31 (by decide) hf (fun hf => ?_) (fun hf => ?_)
          · refine s_weak (lv' := [some (rB (xD X).1 o), some (.int a1), some (.int x1), some (.int x2), none]) ⟨rfl, ⟨rfl, ⟨rfl, ⟨rfl, trivial⟩⟩⟩⟩ ?_
            exact k42 _ hf
          · refine s_aload C dX11_countBoxes_34 rfl ?_
            refine s_callV (rvf := fun x => some (.int x)) (st := []) (fr := 0) (lo := 0) (mc := 0) (ms := 0) C [1] wc_X1_isDown wml_X11_137 wim_X1_isDown wsl_1_X1_isDown dX11_countBoxes_36 (As := []) rfl hf (fun x h' hF => c_X1_isDown _ _ _ _ (x, h') hF) rfl (Nat.le_of_ble_eq_true rfl) (room_ok hX (Nat.le_of_ble_eq_true rfl) (Nat.le_of_ble_eq_true rfl)) (cell_ok hX (Nat.le_of_ble_eq_true rfl) (Nat.le_of_ble_eq_true rfl)) (fun v13 h12 hf => ?_)
            refine s_if_ne (tgt := 45) C dX11_countBoxes_39 (by decide) hf (fun hf => ?_) (fun hf => ?_)
            · refine s_weak (lv' := [some (rB (xD X).1 o), some (.int a1), some (.int x1), some (.int x2), none]) ⟨rfl, ⟨rfl, ⟨rfl, ⟨rfl, trivial⟩⟩⟩⟩ ?_
              exact k45 _ _ hf
            · refine s_weak (lv' := [some (rB (xD X).1 o), some (.int a1), some (.int x1), some (.int x2), none]) ⟨rfl, ⟨rfl, ⟨rfl, ⟨rfl, trivial⟩⟩⟩⟩ ?_
              exact k42 _ hf
  exact k4 lpN _ _ _ hf
/-- HillBoxes.countFinders(Z)I -/
noncomputable def f_X11_countFinders (o : Option Nat) (a1 : Int32) (h : AH) : Option (Int32 × AH) :=
  lp (fun _ _ _ => none) (fun (L4 : Int32 → Int32 → AH → Option (Int32 × AH)) (x1 : Int32) (x2 : Int32) (h3 : AH) =>
    fR h3 [11] o 0 fun v4 =>
    fI h3 [3] v4 3 fun v5 =>
    if v5 ≤ x2 then
      some (x1, h3)
    else
      fR h3 [11] o 0 fun v6 =>
      rO h3 [3] v6 <| cl (f_X3_finderAt v6 x2 h3) fun v8 h7 =>
      jn (fun (x9 : Int32) (h10 : AH) =>
        L4 x9 (x2 + 1) h10) fun j45 =>
      if v8 = none then
        j45 x1 h7
      else
        jn (fun (h11 : AH) =>
          j45 (x1 + 1) h11) fun j42 =>
        if a1 = 0 then
          j42 h7
        else
          rO h7 [2] v8 <| cl (f_X2_hasLeft v8 h7) fun v13 h12 =>
          if v13 = 0 then
            j42 h12
          else
            j45 x1 h12) lpN (0 : Int32) (0 : Int32) h
set_option maxRecDepth 100000 in
set_option maxHeartbeats 4000000 in
theorem c_X11_countFinders (l : Launch) (D : DT) (o : Option Nat) (a1 : Int32) (h : AH) (r : Int32 × AH) (hf : f_X11_countFinders o a1 h = some r) : CM l D yX11_countFinders cX11_countFinders 5 (some .int) 1 22 0 0 [.inr (.inr o), .inl a1] h (some (.int r.1)) r.2 := by
  refine CM.of (by decide) (Nat.le_of_ble_eq_true rfl) (fun X hl C hD hX hnm E => ?_)
  subst hl
  subst hD
  have C : CX X RX11 cX11_countFinders 5 := C
  show WW X h 0 0 0 [some (rB (xD X).1 o), some (.int a1), none, none, none] []
  unfold f_X11_countFinders at hf
  refine s_iconst C dX11_countFinders_0 (v := (0 : Int32)) (by decide) ?_
  refine s_istore_n C dX11_countFinders_1 (by decide) (nc_i rfl) (lv' := [some (rB (xD X).1 o), some (.int a1), some (.int (0 : Int32)), none, none]) rfl ?_
  refine s_iconst C dX11_countFinders_2 (v := (0 : Int32)) (by decide) ?_
  refine s_istore_n C dX11_countFinders_3 (by decide) (nc_i rfl) (lv' := [some (rB (xD X).1 o), some (.int a1), some (.int (0 : Int32)), some (.int (0 : Int32)), none]) rfl ?_
  refine s_lp3 hf (fun G4 z4 q4 hf => ?_)
  have k4 : ∀ (n : Nat) (x1 : Int32) (x2 : Int32) (h3 : AH), G4 n x1 x2 h3 = some r → WW X h3 0 0 4 [some (rB (xD X).1 o), some (.int a1), some (.int x1), some (.int x2), none] [] := by
    intro n
    induction n with
    | zero =>
      intro x1 x2 h3 hf
      rw [z4] at hf
      cases hf
    | succ n ih4 =>
      intro x1 x2 h3 hf
      have hf := (q4 n x1 x2 h3).symm.trans hf
      refine s_iload_n C dX11_countFinders_4 rfl ?_
      refine s_aload_n C dX11_countFinders_5 rfl ?_
      refine s_getR C fl_X11_10 dX11_countFinders_6 hf (fun v4 hf => ?_)
      refine s_getI C fl_X11_70 dX11_countFinders_9 hf (fun v5 hf => ?_)
      refine s_icmp_ge (tgt := 51) C dX11_countFinders_12 (by decide) hf (fun hf => ?_) (fun hf => ?_)
      · refine s_iload_n C dX11_countFinders_51 rfl ?_
        exact s_ireturn C E dX11_countFinders_52 hf (Nat.le_of_ble_eq_true rfl) (Nat.le_of_ble_eq_true rfl)
      · refine s_aload_n C dX11_countFinders_15 rfl ?_
        refine s_getR C fl_X11_10 dX11_countFinders_16 hf (fun v6 hf => ?_)
        refine s_iload_n C dX11_countFinders_19 rfl ?_
        refine s_callV (rvf := fun x => some (rB (xD X).1 x)) (st := []) (fr := 0) (lo := 0) (mc := 0) (ms := 0) C [3] wc_X3_finderAt wml_X11_90 wim_X3_finderAt wsl_3_X3_finderAt dX11_countFinders_20 (As := [.inl x2]) rfl hf (fun x h' hF => c_X3_finderAt _ _ _ _ _ (x, h') hF) rfl (Nat.le_of_ble_eq_true rfl) (room_ok hX (Nat.le_of_ble_eq_true rfl) (Nat.le_of_ble_eq_true rfl)) (cell_ok hX (Nat.le_of_ble_eq_true rfl) (Nat.le_of_ble_eq_true rfl)) (fun v8 h7 hf => ?_)
        refine s_astore C dX11_countFinders_23 (by decide) (nc_i rfl) (lv' := [some (rB (xD X).1 o), some (.int a1), some (.int x1), some (.int x2), some (rB (xD X).1 v8)]) rfl ?_
        refine s_aload C dX11_countFinders_25 rfl ?_
        refine s_jn hf (fun j45 e45 hf => ?_)
        have k45 : ∀ (x9 : Int32) (h10 : AH), j45 x9 h10 = some r → WW X h10 0 0 45 [some (rB (xD X).1 o), some (.int a1), some (.int x9), some (.int x2), none] [] := by
          intro x9 h10 hf
          rw [e45] at hf
          refine s_iinc C dX11_countFinders_45 (v := (x2 + 1)) rfl rfl (by decide) (nc_i rfl) (lv' := [some (rB (xD X).1 o), some (.int a1), some (.int x9), some (.int (x2 + 1)), none]) rfl ?_
          refine s_goto (tgt := 4) C dX11_countFinders_48 (by decide) ?_
          exact ih4 _ _ _ hf
        refine s_ifnull (tgt := 45) C dX11_countFinders_27 (by decide) hf (fun hf => ?_) (fun hf => ?_)
        · refine s_weak (lv' := [some (rB (xD X).1 o), some (.int a1), some (.int x1), some (.int x2), none]) ⟨rfl, ⟨rfl, ⟨rfl, ⟨rfl, trivial⟩⟩⟩⟩ ?_
          exact k45 _ _ hf
        · refine s_iload_n C dX11_countFinders_30 rfl ?_
          refine s_jn hf (fun j42 e42 hf => ?_)
          have k42 : ∀ (h11 : AH), j42 h11 = some r → WW X h11 0 0 42 [some (rB (xD X).1 o), some (.int a1), some (.int x1), some (.int x2), none] [] := by
            intro h11 hf
            rw [e42] at hf
            refine s_iinc C dX11_countFinders_42 (v := (x1 + 1)) rfl rfl (by decide) (nc_i rfl) (lv' := [some (rB (xD X).1 o), some (.int a1), some (.int (x1 + 1)), some (.int x2), none]) rfl ?_
            exact k45 _ _ hf
          refine s_if_eq (tgt := 42) C dX11_countFinders_31 (by decide) hf (fun hf => ?_) (fun hf => ?_)
          · refine s_weak (lv' := [some (rB (xD X).1 o), some (.int a1), some (.int x1), some (.int x2), none]) ⟨rfl, ⟨rfl, ⟨rfl, ⟨rfl, trivial⟩⟩⟩⟩ ?_
            exact k42 _ hf
          · refine s_aload C dX11_countFinders_34 rfl ?_
            refine s_callV (rvf := fun x => some (.int x)) (st := []) (fr := 0) (lo := 0) (mc := 0) (ms := 0) C [2] wc_X2_hasLeft wml_X11_94 wim_X2_hasLeft wsl_2_X2_hasLeft dX11_countFinders_36 (As := []) rfl hf (fun x h' hF => c_X2_hasLeft _ _ _ _ (x, h') hF) rfl (Nat.le_of_ble_eq_true rfl) (room_ok hX (Nat.le_of_ble_eq_true rfl) (Nat.le_of_ble_eq_true rfl)) (cell_ok hX (Nat.le_of_ble_eq_true rfl) (Nat.le_of_ble_eq_true rfl)) (fun v13 h12 hf => ?_)
            refine s_if_ne (tgt := 45) C dX11_countFinders_39 (by decide) hf (fun hf => ?_) (fun hf => ?_)
            · refine s_weak (lv' := [some (rB (xD X).1 o), some (.int a1), some (.int x1), some (.int x2), none]) ⟨rfl, ⟨rfl, ⟨rfl, ⟨rfl, trivial⟩⟩⟩⟩ ?_
              exact k45 _ _ hf
            · refine s_weak (lv' := [some (rB (xD X).1 o), some (.int a1), some (.int x1), some (.int x2), none]) ⟨rfl, ⟨rfl, ⟨rfl, ⟨rfl, trivial⟩⟩⟩⟩ ?_
              exact k42 _ hf
  exact k4 lpN _ _ _ hf
/-- HillBoxes.count(I)I -/
noncomputable def f_X11_count (o : Option Nat) (a1 : Int32) (h : AH) : Option (Int32 × AH) :=
  if a1 = 0 then
    fR h [11] o 0 fun v1 =>
    fI h [3] v1 3 fun v2 =>
    some (v2, h)
  else
  if a1 = 1 then
    rO h [11] o <| cl (f_X11_countBoxes o (0 : Int32) h) fun v4 h3 =>
    some (v4, h3)
  else
  if a1 = 2 then
    rO h [11] o <| cl (f_X11_countBoxes o (1 : Int32) h) fun v6 h5 =>
    some (v6, h5)
  else
  if a1 = 3 then
    rO h [11] o <| cl (f_X11_countFinders o (0 : Int32) h) fun v8 h7 =>
    some (v8, h7)
  else
  if a1 = 4 then
    rO h [11] o <| cl (f_X11_countFinders o (1 : Int32) h) fun v10 h9 =>
    some (v10, h9)
  else
  if a1 = 5 then
    fR h [11] o 2 fun v11 =>
    fI h [4] v11 2 fun v12 =>
    some (v12, h)
  else
  if a1 = 6 then
    fR h [11] o 1 fun v13 =>
    fI h [6] v13 1 fun v14 =>
    some (v14, h)
  else
  if a1 = 7 then
    fR h [11] o 1 fun v15 =>
    fR h [6] v15 0 fun v16 =>
    fI h [8] v16 0 fun v17 =>
    some (v17, h)
  else
  if a1 = 8 then
    fR h [11] o 0 fun v18 =>
    fI h [3] v18 0 fun v19 =>
    some (v19, h)
  else
  if a1 = 9 then
    fR h [11] o 0 fun v20 =>
    fI h [3] v20 5 fun v21 =>
    some (v21, h)
  else
  if a1 = 10 then
    fR h [11] o 5 fun v22 =>
    aI h 20 v22 (24 : Int32) fun v23 =>
    some (v23, h)
  else
    some ((-1 : Int32), h)
set_option maxRecDepth 100000 in
set_option maxHeartbeats 4000000 in
theorem c_X11_count (l : Launch) (D : DT) (o : Option Nat) (a1 : Int32) (h : AH) (r : Int32 × AH) (hf : f_X11_count o a1 h = some r) : CM l D yX11_count cX11_count 2 (some .int) 2 46 0 0 [.inr (.inr o), .inl a1] h (some (.int r.1)) r.2 := by
  refine CM.of (by decide) (Nat.le_of_ble_eq_true rfl) (fun X hl C hD hX hnm E => ?_)
  subst hl
  subst hD
  have C : CX X RX11 cX11_count 2 := C
  show WW X h 0 0 0 [some (rB (xD X).1 o), some (.int a1)] []
  unfold f_X11_count at hf
  refine s_iload_n C dX11_count_0 rfl ?_
  refine s_ite hf (fun e hf => ?_) (fun n0 hf => ?_)
  · refine s_tsw1 (tgt := 60) C dX11_count_1 e (by decide) (by decide) rfl (by decide) ?_
    refine s_aload_n C dX11_count_60 rfl ?_
    refine s_getR C fl_X11_10 dX11_count_61 hf (fun v1 hf => ?_)
    refine s_getI C fl_X11_70 dX11_count_64 hf (fun v2 hf => ?_)
    exact s_ireturn C E dX11_count_67 hf (Nat.le_of_ble_eq_true rfl) (Nat.le_of_ble_eq_true rfl)
  refine s_ite hf (fun e hf => ?_) (fun n1 hf => ?_)
  · refine s_tsw1 (tgt := 68) C dX11_count_1 e (by decide) (by decide) rfl (by decide) ?_
    refine s_aload_n C dX11_count_68 rfl ?_
    refine s_iconst C dX11_count_69 (v := (0 : Int32)) (by decide) ?_
    refine s_callV (rvf := fun x => some (.int x)) (st := []) (fr := 1) (lo := 22) (mc := 0) (ms := 0) C [11] wc_X11_countBoxes wml_X11_479 wim_X11_countBoxes wsl_11_X11_countBoxes dX11_count_70 (As := [.inl (0 : Int32)]) rfl hf (fun x h' hF => c_X11_countBoxes _ _ _ _ _ (x, h') hF) rfl (Nat.le_of_ble_eq_true rfl) (room_ok hX (Nat.le_of_ble_eq_true rfl) (Nat.le_of_ble_eq_true rfl)) (cell_ok hX (Nat.le_of_ble_eq_true rfl) (Nat.le_of_ble_eq_true rfl)) (fun v4 h3 hf => ?_)
    exact s_ireturn C E dX11_count_73 hf (Nat.le_of_ble_eq_true rfl) (Nat.le_of_ble_eq_true rfl)
  refine s_ite hf (fun e hf => ?_) (fun n2 hf => ?_)
  · refine s_tsw1 (tgt := 74) C dX11_count_1 e (by decide) (by decide) rfl (by decide) ?_
    refine s_aload_n C dX11_count_74 rfl ?_
    refine s_iconst C dX11_count_75 (v := (1 : Int32)) (by decide) ?_
    refine s_callV (rvf := fun x => some (.int x)) (st := []) (fr := 1) (lo := 22) (mc := 0) (ms := 0) C [11] wc_X11_countBoxes wml_X11_479 wim_X11_countBoxes wsl_11_X11_countBoxes dX11_count_76 (As := [.inl (1 : Int32)]) rfl hf (fun x h' hF => c_X11_countBoxes _ _ _ _ _ (x, h') hF) rfl (Nat.le_of_ble_eq_true rfl) (room_ok hX (Nat.le_of_ble_eq_true rfl) (Nat.le_of_ble_eq_true rfl)) (cell_ok hX (Nat.le_of_ble_eq_true rfl) (Nat.le_of_ble_eq_true rfl)) (fun v6 h5 hf => ?_)
    exact s_ireturn C E dX11_count_79 hf (Nat.le_of_ble_eq_true rfl) (Nat.le_of_ble_eq_true rfl)
  refine s_ite hf (fun e hf => ?_) (fun n3 hf => ?_)
  · refine s_tsw1 (tgt := 80) C dX11_count_1 e (by decide) (by decide) rfl (by decide) ?_
    refine s_aload_n C dX11_count_80 rfl ?_
    refine s_iconst C dX11_count_81 (v := (0 : Int32)) (by decide) ?_
    refine s_callV (rvf := fun x => some (.int x)) (st := []) (fr := 1) (lo := 22) (mc := 0) (ms := 0) C [11] wc_X11_countFinders wml_X11_482 wim_X11_countFinders wsl_11_X11_countFinders dX11_count_82 (As := [.inl (0 : Int32)]) rfl hf (fun x h' hF => c_X11_countFinders _ _ _ _ _ (x, h') hF) rfl (Nat.le_of_ble_eq_true rfl) (room_ok hX (Nat.le_of_ble_eq_true rfl) (Nat.le_of_ble_eq_true rfl)) (cell_ok hX (Nat.le_of_ble_eq_true rfl) (Nat.le_of_ble_eq_true rfl)) (fun v8 h7 hf => ?_)
    exact s_ireturn C E dX11_count_85 hf (Nat.le_of_ble_eq_true rfl) (Nat.le_of_ble_eq_true rfl)
  refine s_ite hf (fun e hf => ?_) (fun n4 hf => ?_)
  · refine s_tsw1 (tgt := 86) C dX11_count_1 e (by decide) (by decide) rfl (by decide) ?_
    refine s_aload_n C dX11_count_86 rfl ?_
    refine s_iconst C dX11_count_87 (v := (1 : Int32)) (by decide) ?_
    refine s_callV (rvf := fun x => some (.int x)) (st := []) (fr := 1) (lo := 22) (mc := 0) (ms := 0) C [11] wc_X11_countFinders wml_X11_482 wim_X11_countFinders wsl_11_X11_countFinders dX11_count_88 (As := [.inl (1 : Int32)]) rfl hf (fun x h' hF => c_X11_countFinders _ _ _ _ _ (x, h') hF) rfl (Nat.le_of_ble_eq_true rfl) (room_ok hX (Nat.le_of_ble_eq_true rfl) (Nat.le_of_ble_eq_true rfl)) (cell_ok hX (Nat.le_of_ble_eq_true rfl) (Nat.le_of_ble_eq_true rfl)) (fun v10 h9 hf => ?_)
    exact s_ireturn C E dX11_count_91 hf (Nat.le_of_ble_eq_true rfl) (Nat.le_of_ble_eq_true rfl)
  refine s_ite hf (fun e hf => ?_) (fun n5 hf => ?_)
  · refine s_tsw1 (tgt := 92) C dX11_count_1 e (by decide) (by decide) rfl (by decide) ?_
    refine s_aload_n C dX11_count_92 rfl ?_
    refine s_getR C fl_X11_30 dX11_count_93 hf (fun v11 hf => ?_)
    refine s_getI C fl_X11_285 dX11_count_96 hf (fun v12 hf => ?_)
    exact s_ireturn C E dX11_count_99 hf (Nat.le_of_ble_eq_true rfl) (Nat.le_of_ble_eq_true rfl)
  refine s_ite hf (fun e hf => ?_) (fun n6 hf => ?_)
  · refine s_tsw1 (tgt := 100) C dX11_count_1 e (by decide) (by decide) rfl (by decide) ?_
    refine s_aload_n C dX11_count_100 rfl ?_
    refine s_getR C fl_X11_21 dX11_count_101 hf (fun v13 hf => ?_)
    refine s_getI C fl_X11_485 dX11_count_104 hf (fun v14 hf => ?_)
    exact s_ireturn C E dX11_count_107 hf (Nat.le_of_ble_eq_true rfl) (Nat.le_of_ble_eq_true rfl)
  refine s_ite hf (fun e hf => ?_) (fun n7 hf => ?_)
  · refine s_tsw1 (tgt := 108) C dX11_count_1 e (by decide) (by decide) rfl (by decide) ?_
    refine s_aload_n C dX11_count_108 rfl ?_
    refine s_getR C fl_X11_21 dX11_count_109 hf (fun v15 hf => ?_)
    refine s_getR C fl_X11_179 dX11_count_112 hf (fun v16 hf => ?_)
    refine s_getI C fl_X11_191 dX11_count_115 hf (fun v17 hf => ?_)
    exact s_ireturn C E dX11_count_118 hf (Nat.le_of_ble_eq_true rfl) (Nat.le_of_ble_eq_true rfl)
  refine s_ite hf (fun e hf => ?_) (fun n8 hf => ?_)
  · refine s_tsw1 (tgt := 119) C dX11_count_1 e (by decide) (by decide) rfl (by decide) ?_
    refine s_aload_n C dX11_count_119 rfl ?_
    refine s_getR C fl_X11_10 dX11_count_120 hf (fun v18 hf => ?_)
    refine s_getI C fl_X11_52 dX11_count_123 hf (fun v19 hf => ?_)
    exact s_ireturn C E dX11_count_126 hf (Nat.le_of_ble_eq_true rfl) (Nat.le_of_ble_eq_true rfl)
  refine s_ite hf (fun e hf => ?_) (fun n9 hf => ?_)
  · refine s_tsw1 (tgt := 127) C dX11_count_1 e (by decide) (by decide) rfl (by decide) ?_
    refine s_aload_n C dX11_count_127 rfl ?_
    refine s_getR C fl_X11_10 dX11_count_128 hf (fun v20 hf => ?_)
    refine s_getI C fl_X11_100 dX11_count_131 hf (fun v21 hf => ?_)
    exact s_ireturn C E dX11_count_134 hf (Nat.le_of_ble_eq_true rfl) (Nat.le_of_ble_eq_true rfl)
  refine s_ite hf (fun e hf => ?_) (fun n10 hf => ?_)
  · refine s_tsw1 (tgt := 135) C dX11_count_1 e (by decide) (by decide) rfl (by decide) ?_
    refine s_aload_n C dX11_count_135 rfl ?_
    refine s_getR C fl_X11_48 dX11_count_136 hf (fun v22 hf => ?_)
    refine s_bipush C dX11_count_139 (v := (24 : Int32)) (by decide) ?_
    refine s_iaload C dX11_count_141 hf (fun v23 hf => ?_)
    exact s_ireturn C E dX11_count_142 hf (Nat.le_of_ble_eq_true rfl) (Nat.le_of_ble_eq_true rfl)
  refine s_tswD (tgt := 143) C dX11_count_1 (by have n0x := n32 (i := 0) n0 rfl; have n1x := n32 (i := 1) n1 rfl; have n2x := n32 (i := 2) n2 rfl; have n3x := n32 (i := 3) n3 rfl; have n4x := n32 (i := 4) n4 rfl; have n5x := n32 (i := 5) n5 rfl; have n6x := n32 (i := 6) n6 rfl; have n7x := n32 (i := 7) n7 rfl; have n8x := n32 (i := 8) n8 rfl; have n9x := n32 (i := 9) n9 rfl; have n10x := n32 (i := 10) n10 rfl; omega) (by decide) ?_
  refine s_iconst C dX11_count_143 (v := (-1 : Int32)) (by decide) ?_
  exact s_ireturn C E dX11_count_144 hf (Nat.le_of_ble_eq_true rfl) (Nat.le_of_ble_eq_true rfl)
/-- HillBoxes.days(I)I -/
noncomputable def f_X11_days (o : Option Nat) (a1 : Int32) (h : AH) : Option (Int32 × AH) :=
  jn (
    some ((-1 : Int32), h)) fun j26 =>
  if a1 < (1 : Int32) then
    j26
  else
    if (100 : Int32) < a1 then
      j26
    else
      fR h [11] o 0 fun v1 =>
      fI h [3] v1 0 fun v2 =>
      if (v2 + a1) ≤ (999 : Int32) then
        fR h [11] o 0 fun v3 =>
        fI h [3] v3 0 fun v4 =>
        pI h [3] v3 0 (v4 + a1) fun h5 =>
        fR h5 [11] o 0 fun v6 =>
        fI h5 [3] v6 0 fun v7 =>
        some (v7, h5)
      else
        j26
set_option maxRecDepth 100000 in
set_option maxHeartbeats 4000000 in
theorem c_X11_days (l : Launch) (D : DT) (o : Option Nat) (a1 : Int32) (h : AH) (r : Int32 × AH) (hf : f_X11_days o a1 h = some r) : CM l D yX11_days cX11_days 2 (some .int) 0 0 0 0 [.inr (.inr o), .inl a1] h (some (.int r.1)) r.2 := by
  refine CM.of (by decide) (Nat.le_of_ble_eq_true rfl) (fun X hl C hD hX hnm E => ?_)
  subst hl
  subst hD
  have C : CX X RX11 cX11_days 2 := C
  show WW X h 0 0 0 [some (rB (xD X).1 o), some (.int a1)] []
  unfold f_X11_days at hf
  refine s_iload_n C dX11_days_0 rfl ?_
  refine s_iconst C dX11_days_1 (v := (1 : Int32)) (by decide) ?_
  refine s_jn hf (fun j26 e26 hf => ?_)
  have k26 : j26  = some r → WW X h 0 0 26 [none, none] [] := by
    intro  hf
    rw [e26] at hf
    refine s_iconst C dX11_days_26 (v := (-1 : Int32)) (by decide) ?_
    exact s_ireturn C E dX11_days_27 hf (Nat.le_of_ble_eq_true rfl) (Nat.le_of_ble_eq_true rfl)
  refine s_icmp_lt (tgt := 26) C dX11_days_2 (by decide) hf (fun hf => ?_) (fun hf => ?_)
  · refine s_weak (lv' := [none, none]) trivial ?_
    exact k26 hf
  · refine s_iload_n C dX11_days_5 rfl ?_
    refine s_bipush C dX11_days_6 (v := (100 : Int32)) (by decide) ?_
    refine s_icmp_gt (tgt := 26) C dX11_days_8 (by decide) hf (fun hf => ?_) (fun hf => ?_)
    · refine s_weak (lv' := [none, none]) trivial ?_
      exact k26 hf
    · refine s_aload_n C dX11_days_11 rfl ?_
      refine s_getR C fl_X11_10 dX11_days_12 hf (fun v1 hf => ?_)
      refine s_getI C fl_X11_52 dX11_days_15 hf (fun v2 hf => ?_)
      refine s_iload_n C dX11_days_18 rfl ?_
      refine s_iadd C dX11_days_19 ?_
      refine s_sipush C dX11_days_20 (v := (999 : Int32)) (by decide) ?_
      refine s_icmp_le (tgt := 28) C dX11_days_23 (by decide) hf (fun hf => ?_) (fun hf => ?_)
      · refine s_aload_n C dX11_days_28 rfl ?_
        refine s_getR C fl_X11_10 dX11_days_29 hf (fun v3 hf => ?_)
        refine s_dup C dX11_days_32 c1_r ?_
        refine s_getI C fl_X11_52 dX11_days_33 hf (fun v4 hf => ?_)
        refine s_iload_n C dX11_days_36 rfl ?_
        refine s_iadd C dX11_days_37 ?_
        refine s_putI C fl_X11_52 (by decide) dX11_days_38 hf (fun h5 hf => ?_)
        refine s_aload_n C dX11_days_41 rfl ?_
        refine s_getR C fl_X11_10 dX11_days_42 hf (fun v6 hf => ?_)
        refine s_getI C fl_X11_52 dX11_days_45 hf (fun v7 hf => ?_)
        exact s_ireturn C E dX11_days_48 hf (Nat.le_of_ble_eq_true rfl) (Nat.le_of_ble_eq_true rfl)
      · refine s_weak (lv' := [none, none]) trivial ?_
        exact k26 hf
/-- HillBoxes.down(I)I -/
noncomputable def f_X11_down (o : Option Nat) (a1 : Int32) (h : AH) : Option (Int32 × AH) :=
  fR h [11] o 0 fun v1 =>
  rO h [3] v1 <| cl (f_X3_boxAt v1 a1 h) fun v3 h2 =>
  if v3 = none then
    some ((-1 : Int32), h2)
  else
    rO h2 [1] v3 <| cl (f_X1_isDown v3 h2) fun v5 h4 =>
    if v5 = 0 then
      fR h4 [11] o 0 fun v6 =>
      fI h4 [3] v6 0 fun v7 =>
      pI h4 [1] v3 11 v7 fun h8 =>
      some ((1 : Int32), h8)
    else
      some ((-2 : Int32), h4)
set_option maxRecDepth 100000 in
set_option maxHeartbeats 4000000 in
theorem c_X11_down (l : Launch) (D : DT) (o : Option Nat) (a1 : Int32) (h : AH) (r : Int32 × AH) (hf : f_X11_down o a1 h = some r) : CM l D yX11_down cX11_down 3 (some .int) 1 22 0 0 [.inr (.inr o), .inl a1] h (some (.int r.1)) r.2 := by
  refine CM.of (by decide) (Nat.le_of_ble_eq_true rfl) (fun X hl C hD hX hnm E => ?_)
  subst hl
  subst hD
  have C : CX X RX11 cX11_down 3 := C
  show WW X h 0 0 0 [some (rB (xD X).1 o), some (.int a1), none] []
  unfold f_X11_down at hf
  refine s_aload_n C dX11_down_0 rfl ?_
  refine s_getR C fl_X11_10 dX11_down_1 hf (fun v1 hf => ?_)
  refine s_iload_n C dX11_down_4 rfl ?_
  refine s_callV (rvf := fun x => some (rB (xD X).1 x)) (st := []) (fr := 0) (lo := 0) (mc := 0) (ms := 0) C [3] wc_X3_boxAt wml_X11_130 wim_X3_boxAt wsl_3_X3_boxAt dX11_down_5 (As := [.inl a1]) rfl hf (fun x h' hF => c_X3_boxAt _ _ _ _ _ (x, h') hF) rfl (Nat.le_of_ble_eq_true rfl) (room_ok hX (Nat.le_of_ble_eq_true rfl) (Nat.le_of_ble_eq_true rfl)) (cell_ok hX (Nat.le_of_ble_eq_true rfl) (Nat.le_of_ble_eq_true rfl)) (fun v3 h2 hf => ?_)
  refine s_astore_n C dX11_down_8 (by decide) (nc_i rfl) (lv' := [some (rB (xD X).1 o), some (.int a1), some (rB (xD X).1 v3)]) rfl ?_
  refine s_aload_n C dX11_down_9 rfl ?_
  refine s_ifnonnull (tgt := 15) C dX11_down_10 (by decide) hf (fun hf => ?_) (fun hf => ?_)
  · refine s_aload_n C dX11_down_15 rfl ?_
    refine s_callV (rvf := fun x => some (.int x)) (st := []) (fr := 0) (lo := 0) (mc := 0) (ms := 0) C [1] wc_X1_isDown wml_X11_137 wim_X1_isDown wsl_1_X1_isDown dX11_down_16 (As := []) rfl hf (fun x h' hF => c_X1_isDown _ _ _ _ (x, h') hF) rfl (Nat.le_of_ble_eq_true rfl) (room_ok hX (Nat.le_of_ble_eq_true rfl) (Nat.le_of_ble_eq_true rfl)) (cell_ok hX (Nat.le_of_ble_eq_true rfl) (Nat.le_of_ble_eq_true rfl)) (fun v5 h4 hf => ?_)
    refine s_if_eq (tgt := 25) C dX11_down_19 (by decide) hf (fun hf => ?_) (fun hf => ?_)
    · refine s_aload_n C dX11_down_25 rfl ?_
      refine s_aload_n C dX11_down_26 rfl ?_
      refine s_getR C fl_X11_10 dX11_down_27 hf (fun v6 hf => ?_)
      refine s_getI C fl_X11_52 dX11_down_30 hf (fun v7 hf => ?_)
      refine s_putI C fl_X11_153 (by decide) dX11_down_33 hf (fun h8 hf => ?_)
      refine s_iconst C dX11_down_36 (v := (1 : Int32)) (by decide) ?_
      exact s_ireturn C E dX11_down_37 hf (Nat.le_of_ble_eq_true rfl) (Nat.le_of_ble_eq_true rfl)
    · refine s_bipush C dX11_down_22 (v := (-2 : Int32)) (by decide) ?_
      exact s_ireturn C E dX11_down_24 hf (Nat.le_of_ble_eq_true rfl) (Nat.le_of_ble_eq_true rfl)
  · refine s_iconst C dX11_down_13 (v := (-1 : Int32)) (by decide) ?_
    exact s_ireturn C E dX11_down_14 hf (Nat.le_of_ble_eq_true rfl) (Nat.le_of_ble_eq_true rfl)
/-- HillBoxes.shelfAt(I)LHillBoxes$Shelf; -/
noncomputable def f_X11_shelfAt (o : Option Nat) (a1 : Int32) (h : AH) : Option (Option Nat × AH) :=
  jn (fun (x1 : Option Nat) =>
    some (x1, h)) fun j20 =>
  jn (
    j20 none) fun j10 =>
  if a1 < 0 then
    j10
  else
    if a1 < (6 : Int32) then
      fR h [11] o 4 fun v2 =>
      aR h 27 v2 a1 fun v3 =>
      j20 v3
    else
      j10
set_option maxRecDepth 100000 in
set_option maxHeartbeats 4000000 in
theorem c_X11_shelfAt (l : Launch) (D : DT) (o : Option Nat) (a1 : Int32) (h : AH) (r : Option Nat × AH) (hf : f_X11_shelfAt o a1 h = some r) : CM l D yX11_shelfAt cX11_shelfAt 2 (some (.object "HillBoxes$Shelf")) 0 0 0 0 [.inr (.inr o), .inl a1] h (some (rB D.1 r.1)) r.2 := by
  refine CM.of (by decide) (Nat.le_of_ble_eq_true rfl) (fun X hl C hD hX hnm E => ?_)
  subst hl
  subst hD
  have C : CX X RX11 cX11_shelfAt 2 := C
  show WW X h 0 0 0 [some (rB (xD X).1 o), some (.int a1)] []
  unfold f_X11_shelfAt at hf
  refine s_iload_n C dX11_shelfAt_0 rfl ?_
  refine s_jn hf (fun j20 e20 hf => ?_)
  have k20 : ∀ (x1 : Option Nat), j20 x1 = some r → WW X h 0 0 20 [none, none] [rB (xD X).1 x1] := by
    intro x1 hf
    rw [e20] at hf
    exact s_areturn C E dX11_shelfAt_20 hf (Nat.le_of_ble_eq_true rfl) (Nat.le_of_ble_eq_true rfl)
  refine s_jn hf (fun j10 e10 hf => ?_)
  have k10 : j10  = some r → WW X h 0 0 10 [none, none] [] := by
    intro  hf
    rw [e10] at hf
    refine s_null C dX11_shelfAt_10 ?_
    refine s_goto (tgt := 20) C dX11_shelfAt_11 (by decide) ?_
    exact k20 _ hf
  refine s_if_lt (tgt := 10) C dX11_shelfAt_1 (by decide) hf (fun hf => ?_) (fun hf => ?_)
  · refine s_weak (lv' := [none, none]) trivial ?_
    exact k10 hf
  · refine s_iload_n C dX11_shelfAt_4 rfl ?_
    refine s_bipush C dX11_shelfAt_5 (v := (6 : Int32)) (by decide) ?_
    refine s_icmp_lt (tgt := 14) C dX11_shelfAt_7 (by decide) hf (fun hf => ?_) (fun hf => ?_)
    · refine s_aload_n C dX11_shelfAt_14 rfl ?_
      refine s_getR C fl_X11_43 dX11_shelfAt_15 hf (fun v2 hf => ?_)
      refine s_iload_n C dX11_shelfAt_18 rfl ?_
      refine s_aaload C dX11_shelfAt_19 (by decide) hf (fun v3 hf => ?_)
      refine s_weak (lv' := [none, none]) trivial ?_
      exact k20 _ hf
    · refine s_weak (lv' := [none, none]) trivial ?_
      exact k10 hf
/-- HillBoxes$Shelf.hasPlaces(JI)Z -/
noncomputable def f_X7_hasPlaces (o : Option Nat) (a1 : Int64) (a3 : Int32) (h : AH) : Option (Int32 × AH) :=
  fI h [7] o 1 fun v1 =>
  jn (fun (x2 : Int32) =>
    rz x2 h) fun j34 =>
  jn (
    j34 (0 : Int32)) fun j33 =>
  if v1 = 0 then
    j33
  else
    if (lg_cmp a1 (0 : Int64)) < 0 then
      j33
    else
      if a3 < 0 then
        j33
      else
        fI h [7] o 3 fun v3 =>
        if 0 < (lg_cmp a1 ((v3 - a3).toInt64)) then
          j33
        else
          j34 (1 : Int32)
set_option maxRecDepth 100000 in
set_option maxHeartbeats 4000000 in
theorem c_X7_hasPlaces (l : Launch) (D : DT) (o : Option Nat) (a1 : Int64) (a3 : Int32) (h : AH) (r : Int32 × AH) (hf : f_X7_hasPlaces o a1 a3 h = some r) : CM l D yX7_hasPlaces cX7_hasPlaces 4 (some .boolean) 0 0 0 0 [.inr (.inr o), .inr (.inl a1), .inl a3] h (some (.int r.1)) r.2 := by
  refine CM.of (by decide) (Nat.le_of_ble_eq_true rfl) (fun X hl C hD hX hnm E => ?_)
  subst hl
  subst hD
  have C : CX X RX7 cX7_hasPlaces 4 := C
  show WW X h 0 0 0 [some (rB (xD X).1 o), some (.long a1), none, some (.int a3)] []
  unfold f_X7_hasPlaces at hf
  refine s_aload_n C dX7_hasPlaces_0 rfl ?_
  refine s_getI C fl_X7_19 dX7_hasPlaces_1 hf (fun v1 hf => ?_)
  refine s_jn hf (fun j34 e34 hf => ?_)
  have k34 : ∀ (x2 : Int32), j34 x2 = some r → WW X h 0 0 34 [none, none, none, none] [.int x2] := by
    intro x2 hf
    rw [e34] at hf
    exact s_zreturn C E dX7_hasPlaces_34 hf (Nat.le_of_ble_eq_true rfl) (Nat.le_of_ble_eq_true rfl)
  refine s_jn hf (fun j33 e33 hf => ?_)
  have k33 : j33  = some r → WW X h 0 0 33 [none, none, none, none] [] := by
    intro  hf
    rw [e33] at hf
    refine s_iconst C dX7_hasPlaces_33 (v := (0 : Int32)) (by decide) ?_
    exact k34 _ hf
  refine s_if_eq (tgt := 33) C dX7_hasPlaces_4 (by decide) hf (fun hf => ?_) (fun hf => ?_)
  · refine s_weak (lv' := [none, none, none, none]) trivial ?_
    exact k33 hf
  · refine s_lload_n C dX7_hasPlaces_7 rfl ?_
    refine s_lconst C dX7_hasPlaces_8 (v := (0 : Int64)) (by decide) ?_
    refine s_lcmp C dX7_hasPlaces_9 ?_
    refine s_if_lt (tgt := 33) C dX7_hasPlaces_10 (by decide) hf (fun hf => ?_) (fun hf => ?_)
    · refine s_weak (lv' := [none, none, none, none]) trivial ?_
      exact k33 hf
    · refine s_iload_n C dX7_hasPlaces_13 rfl ?_
      refine s_if_lt (tgt := 33) C dX7_hasPlaces_14 (by decide) hf (fun hf => ?_) (fun hf => ?_)
      · refine s_weak (lv' := [none, none, none, none]) trivial ?_
        exact k33 hf
      · refine s_lload_n C dX7_hasPlaces_17 rfl ?_
        refine s_aload_n C dX7_hasPlaces_18 rfl ?_
        refine s_getI C fl_X7_27 dX7_hasPlaces_19 hf (fun v3 hf => ?_)
        refine s_iload_n C dX7_hasPlaces_22 rfl ?_
        refine s_isub C dX7_hasPlaces_23 ?_
        refine s_i2l C dX7_hasPlaces_24 ?_
        refine s_lcmp C dX7_hasPlaces_25 ?_
        refine s_if_gt (tgt := 33) C dX7_hasPlaces_26 (by decide) hf (fun hf => ?_) (fun hf => ?_)
        · refine s_weak (lv' := [none, none, none, none]) trivial ?_
          exact k33 hf
        · refine s_iconst C dX7_hasPlaces_29 (v := (1 : Int32)) (by decide) ?_
          refine s_goto (tgt := 34) C dX7_hasPlaces_30 (by decide) ?_
          refine s_weak (lv' := [none, none, none, none]) trivial ?_
          exact k34 _ hf
/-- HillBoxes$Shelf.elementOr(JJ)J -/
noncomputable def f_X7_elementOr (o : Option Nat) (a1 : Int64) (a3 : Int64) (h : AH) : Option (Int64 × AH) :=
  rO h [7] o <| cl (f_X7_hasPlaces o a1 (1 : Int32) h) fun v2 h1 =>
  jn (fun (x3 : Int64) =>
    some (x3, h1)) fun j20 =>
  if v2 = 0 then
    j20 a3
  else
    fR h1 [7] o 4 fun v4 =>
    aL h1 24 v4 a1.toInt32 fun v5 =>
    j20 v5
set_option maxRecDepth 100000 in
set_option maxHeartbeats 4000000 in
theorem c_X7_elementOr (l : Launch) (D : DT) (o : Option Nat) (a1 : Int64) (a3 : Int64) (h : AH) (r : Int64 × AH) (hf : f_X7_elementOr o a1 a3 h = some r) : CM l D yX7_elementOr cX7_elementOr 5 (some .long) 1 23 0 0 [.inr (.inr o), .inr (.inl a1), .inr (.inl a3)] h (some (.long r.1)) r.2 := by
  refine CM.of (by decide) (Nat.le_of_ble_eq_true rfl) (fun X hl C hD hX hnm E => ?_)
  subst hl
  subst hD
  have C : CX X RX7 cX7_elementOr 5 := C
  show WW X h 0 0 0 [some (rB (xD X).1 o), some (.long a1), none, some (.long a3), none] []
  unfold f_X7_elementOr at hf
  refine s_aload_n C dX7_elementOr_0 rfl ?_
  refine s_lload_n C dX7_elementOr_1 rfl ?_
  refine s_iconst C dX7_elementOr_2 (v := (1 : Int32)) (by decide) ?_
  refine s_callV (rvf := fun x => some (.int x)) (st := []) (fr := 0) (lo := 0) (mc := 0) (ms := 0) C [7] wc_X7_hasPlaces wml_X7_36 wim_X7_hasPlaces wsl_7_X7_hasPlaces dX7_elementOr_3 (As := [.inr (.inl a1), .inl (1 : Int32)]) rfl hf (fun x h' hF => c_X7_hasPlaces _ _ _ _ _ _ (x, h') hF) rfl (Nat.le_of_ble_eq_true rfl) (room_ok hX (Nat.le_of_ble_eq_true rfl) (Nat.le_of_ble_eq_true rfl)) (cell_ok hX (Nat.le_of_ble_eq_true rfl) (Nat.le_of_ble_eq_true rfl)) (fun v2 h1 hf => ?_)
  refine s_jn hf (fun j20 e20 hf => ?_)
  have k20 : ∀ (x3 : Int64), j20 x3 = some r → WW X h1 0 0 20 [none, none, none, none, none] [.long x3] := by
    intro x3 hf
    rw [e20] at hf
    exact s_lreturn C E dX7_elementOr_20 hf (Nat.le_of_ble_eq_true rfl) (Nat.le_of_ble_eq_true rfl)
  refine s_if_eq (tgt := 19) C dX7_elementOr_6 (by decide) hf (fun hf => ?_) (fun hf => ?_)
  · refine s_lload_n C dX7_elementOr_19 rfl ?_
    refine s_weak (lv' := [none, none, none, none, none]) trivial ?_
    exact k20 _ hf
  · refine s_aload_n C dX7_elementOr_9 rfl ?_
    refine s_getR C fl_X7_9 dX7_elementOr_10 hf (fun v4 hf => ?_)
    refine s_lload_n C dX7_elementOr_13 rfl ?_
    refine s_l2i C dX7_elementOr_14 ?_
    refine s_laload C dX7_elementOr_15 hf (fun v5 hf => ?_)
    refine s_goto (tgt := 20) C dX7_elementOr_16 (by decide) ?_
    refine s_weak (lv' := [none, none, none, none, none]) trivial ?_
    exact k20 _ hf
/-- HillBoxes.element(II)J -/
noncomputable def f_X11_element (o : Option Nat) (a1 : Int32) (a2 : Int32) (h : AH) : Option (Int64 × AH) :=
  rO h [11] o <| cl (f_X11_shelfAt o a1 h) fun v2 h1 =>
  jn (fun (x3 : Int64) (h4 : AH) =>
    some (x3, h4)) fun j25 =>
  if v2 = none then
    j25 (-9223372036854775808 : Int64) h1
  else
    rO h1 [7] v2 <| cl (f_X7_elementOr v2 a2.toInt64 (-9223372036854775808 : Int64) h1) fun v6 h5 =>
    j25 v6 h5
set_option maxRecDepth 100000 in
set_option maxHeartbeats 4000000 in
theorem c_X11_element (l : Launch) (D : DT) (o : Option Nat) (a1 : Int32) (a2 : Int32) (h : AH) (r : Int64 × AH) (hf : f_X11_element o a1 a2 h = some r) : CM l D yX11_element cX11_element 4 (some .long) 2 47 0 0 [.inr (.inr o), .inl a1, .inl a2] h (some (.long r.1)) r.2 := by
  refine CM.of (by decide) (Nat.le_of_ble_eq_true rfl) (fun X hl C hD hX hnm E => ?_)
  subst hl
  subst hD
  have C : CX X RX11 cX11_element 4 := C
  show WW X h 0 0 0 [some (rB (xD X).1 o), some (.int a1), some (.int a2), none] []
  unfold f_X11_element at hf
  refine s_aload_n C dX11_element_0 rfl ?_
  refine s_iload_n C dX11_element_1 rfl ?_
  refine s_callV (rvf := fun x => some (rB (xD X).1 x)) (st := []) (fr := 0) (lo := 0) (mc := 0) (ms := 0) C [11] wc_X11_shelfAt wml_X11_238 wim_X11_shelfAt wsl_11_X11_shelfAt dX11_element_2 (As := [.inl a1]) rfl hf (fun x h' hF => c_X11_shelfAt _ _ _ _ _ (x, h') hF) rfl (Nat.le_of_ble_eq_true rfl) (room_ok hX (Nat.le_of_ble_eq_true rfl) (Nat.le_of_ble_eq_true rfl)) (cell_ok hX (Nat.le_of_ble_eq_true rfl) (Nat.le_of_ble_eq_true rfl)) (fun v2 h1 hf => ?_)
  refine s_astore_n C dX11_element_5 (by decide) (nc_i rfl) (lv' := [some (rB (xD X).1 o), some (.int a1), some (.int a2), some (rB (xD X).1 v2)]) rfl ?_
  refine s_aload_n C dX11_element_6 rfl ?_
  refine s_jn hf (fun j25 e25 hf => ?_)
  have k25 : ∀ (x3 : Int64) (h4 : AH), j25 x3 h4 = some r → WW X h4 0 0 25 [none, none, none, none] [.long x3] := by
    intro x3 h4 hf
    rw [e25] at hf
    exact s_lreturn C E dX11_element_25 hf (Nat.le_of_ble_eq_true rfl) (Nat.le_of_ble_eq_true rfl)
  refine s_ifnonnull (tgt := 16) C dX11_element_7 (by decide) hf (fun hf => ?_) (fun hf => ?_)
  · refine s_aload_n C dX11_element_16 rfl ?_
    refine s_iload_n C dX11_element_17 rfl ?_
    refine s_i2l C dX11_element_18 ?_
    refine s_ldc2 C dX11_element_19 wk_X11_272 ?_
    refine s_callV (rvf := fun x => some (.long x)) (st := []) (fr := 1) (lo := 23) (mc := 0) (ms := 0) C [7] wc_X7_elementOr wml_X11_296 wim_X7_elementOr wsl_7_X7_elementOr dX11_element_22 (As := [.inr (.inl a2.toInt64), .inr (.inl (-9223372036854775808 : Int64))]) rfl hf (fun x h' hF => c_X7_elementOr _ _ _ _ _ _ (x, h') hF) rfl (Nat.le_of_ble_eq_true rfl) (room_ok hX (Nat.le_of_ble_eq_true rfl) (Nat.le_of_ble_eq_true rfl)) (cell_ok hX (Nat.le_of_ble_eq_true rfl) (Nat.le_of_ble_eq_true rfl)) (fun v6 h5 hf => ?_)
    refine s_weak (lv' := [none, none, none, none]) trivial ?_
    exact k25 _ _ hf
  · refine s_ldc2 C dX11_element_10 wk_X11_272 ?_
    refine s_goto (tgt := 25) C dX11_element_13 (by decide) ?_
    refine s_weak (lv' := [none, none, none, none]) trivial ?_
    exact k25 _ _ hf
/-- HillBoxes$Tape.append(I)V -/
noncomputable def f_X8_append (o : Option Nat) (a1 : Int32) (h : AH) : Option (Unit × AH) :=
  fI h [8] o 0 fun v1 =>
  jn (fun (h2 : AH) =>
    some ((), h2)) fun j30 =>
  if (160 : Int32) ≤ v1 then
    j30 h
  else
    fR h [8] o 1 fun v3 =>
    fI h [8] o 0 fun v4 =>
    bI h 20 v3 v4 a1 fun h5 =>
    fI h5 [8] o 0 fun v6 =>
    pI h5 [8] o 0 (v6 + (1 : Int32)) fun h7 =>
    j30 h7
set_option maxRecDepth 100000 in
set_option maxHeartbeats 4000000 in
theorem c_X8_append (l : Launch) (D : DT) (o : Option Nat) (a1 : Int32) (h : AH) (r : Unit × AH) (hf : f_X8_append o a1 h = some r) : CM l D yX8_append cX8_append 2 none 0 0 0 0 [.inr (.inr o), .inl a1] h none r.2 := by
  refine CM.of (by decide) (Nat.le_of_ble_eq_true rfl) (fun X hl C hD hX hnm E => ?_)
  subst hl
  subst hD
  have C : CX X RX8 cX8_append 2 := C
  show WW X h 0 0 0 [some (rB (xD X).1 o), some (.int a1)] []
  unfold f_X8_append at hf
  refine s_aload_n C dX8_append_0 rfl ?_
  refine s_getI C fl_X8_25 dX8_append_1 hf (fun v1 hf => ?_)
  refine s_sipush C dX8_append_4 (v := (160 : Int32)) (by decide) ?_
  refine s_jn hf (fun j30 e30 hf => ?_)
  have k30 : ∀ (h2 : AH), j30 h2 = some r → WW X h2 0 0 30 [none, none] [] := by
    intro h2 hf
    rw [e30] at hf
    exact s_return C E dX8_append_30 hf (Nat.le_of_ble_eq_true rfl) (Nat.le_of_ble_eq_true rfl)
  refine s_icmp_ge (tgt := 30) C dX8_append_7 (by decide) hf (fun hf => ?_) (fun hf => ?_)
  · refine s_weak (lv' := [none, none]) trivial ?_
    exact k30 _ hf
  · refine s_aload_n C dX8_append_10 rfl ?_
    refine s_getR C fl_X8_9 dX8_append_11 hf (fun v3 hf => ?_)
    refine s_aload_n C dX8_append_14 rfl ?_
    refine s_getI C fl_X8_25 dX8_append_15 hf (fun v4 hf => ?_)
    refine s_iload_n C dX8_append_18 rfl ?_
    refine s_iastore C dX8_append_19 hf (fun h5 hf => ?_)
    refine s_aload_n C dX8_append_20 rfl ?_
    refine s_dup C dX8_append_21 c1_r ?_
    refine s_getI C fl_X8_25 dX8_append_22 hf (fun v6 hf => ?_)
    refine s_iconst C dX8_append_25 (v := (1 : Int32)) (by decide) ?_
    refine s_iadd C dX8_append_26 ?_
    refine s_putI C fl_X8_25 (by decide) dX8_append_27 hf (fun h7 hf => ?_)
    refine s_weak (lv' := [none, none]) trivial ?_
    exact k30 _ hf
/-- HillBoxes$Tape.hasRoomFor(I)Z -/
noncomputable def f_X8_hasRoomFor (o : Option Nat) (a1 : Int32) (h : AH) : Option (Int32 × AH) :=
  fI h [8] o 0 fun v1 =>
  jn (fun (x2 : Int32) =>
    rz x2 h) fun j17 =>
  if ((160 : Int32) - a1) < v1 then
    j17 (0 : Int32)
  else
    j17 (1 : Int32)
set_option maxRecDepth 100000 in
set_option maxHeartbeats 4000000 in
theorem c_X8_hasRoomFor (l : Launch) (D : DT) (o : Option Nat) (a1 : Int32) (h : AH) (r : Int32 × AH) (hf : f_X8_hasRoomFor o a1 h = some r) : CM l D yX8_hasRoomFor cX8_hasRoomFor 2 (some .boolean) 0 0 0 0 [.inr (.inr o), .inl a1] h (some (.int r.1)) r.2 := by
  refine CM.of (by decide) (Nat.le_of_ble_eq_true rfl) (fun X hl C hD hX hnm E => ?_)
  subst hl
  subst hD
  have C : CX X RX8 cX8_hasRoomFor 2 := C
  show WW X h 0 0 0 [some (rB (xD X).1 o), some (.int a1)] []
  unfold f_X8_hasRoomFor at hf
  refine s_aload_n C dX8_hasRoomFor_0 rfl ?_
  refine s_getI C fl_X8_25 dX8_hasRoomFor_1 hf (fun v1 hf => ?_)
  refine s_sipush C dX8_hasRoomFor_4 (v := (160 : Int32)) (by decide) ?_
  refine s_iload_n C dX8_hasRoomFor_7 rfl ?_
  refine s_isub C dX8_hasRoomFor_8 ?_
  refine s_jn hf (fun j17 e17 hf => ?_)
  have k17 : ∀ (x2 : Int32), j17 x2 = some r → WW X h 0 0 17 [none, none] [.int x2] := by
    intro x2 hf
    rw [e17] at hf
    exact s_zreturn C E dX8_hasRoomFor_17 hf (Nat.le_of_ble_eq_true rfl) (Nat.le_of_ble_eq_true rfl)
  refine s_icmp_gt (tgt := 16) C dX8_hasRoomFor_9 (by decide) hf (fun hf => ?_) (fun hf => ?_)
  · refine s_iconst C dX8_hasRoomFor_16 (v := (0 : Int32)) (by decide) ?_
    refine s_weak (lv' := [none, none]) trivial ?_
    exact k17 _ hf
  · refine s_iconst C dX8_hasRoomFor_12 (v := (1 : Int32)) (by decide) ?_
    refine s_goto (tgt := 17) C dX8_hasRoomFor_13 (by decide) ?_
    refine s_weak (lv' := [none, none]) trivial ?_
    exact k17 _ hf
/-- HillBoxes.feed(II)I -/
noncomputable def f_X11_feed (o : Option Nat) (a1 : Int32) (a2 : Int32) (h : AH) : Option (Int32 × AH) :=
  jn (
    some ((-1 : Int32), h)) fun j10 =>
  if a1 < (1 : Int32) then
    j10
  else
    if a1 ≤ (4 : Int32) then
      fR h [11] o 1 fun v1 =>
      fR h [6] v1 0 fun v2 =>
      rO h [8] v2 <| cl (f_X8_hasRoomFor v2 a1 h) fun v4 h3 =>
      if v4 = 0 then
        some ((-3 : Int32), h3)
      else
        lp (fun _ _ => none) (fun (L31 : Int32 → AH → Option (Int32 × AH)) (x5 : Int32) (h6 : AH) =>
          if a1 ≤ x5 then
            fR h6 [11] o 1 fun v7 =>
            fR h6 [6] v7 0 fun v8 =>
            fI h6 [8] v8 0 fun v9 =>
            some (v9, h6)
          else
            fR h6 [11] o 1 fun v10 =>
            fR h6 [6] v10 0 fun v11 =>
            rO h6 [8] v11 <| cl (f_X8_append v11 ((a2 >>> (((8 : Int32) * x5) &&& 31)) &&& (255 : Int32)) h6) fun _ h12 =>
            L31 (x5 + 1) h12) lpN (0 : Int32) h3
    else
      j10
set_option maxRecDepth 100000 in
set_option maxHeartbeats 4000000 in
theorem c_X11_feed (l : Launch) (D : DT) (o : Option Nat) (a1 : Int32) (a2 : Int32) (h : AH) (r : Int32 × AH) (hf : f_X11_feed o a1 a2 h = some r) : CM l D yX11_feed cX11_feed 4 (some .int) 1 21 0 0 [.inr (.inr o), .inl a1, .inl a2] h (some (.int r.1)) r.2 := by
  refine CM.of (by decide) (Nat.le_of_ble_eq_true rfl) (fun X hl C hD hX hnm E => ?_)
  subst hl
  subst hD
  have C : CX X RX11 cX11_feed 4 := C
  show WW X h 0 0 0 [some (rB (xD X).1 o), some (.int a1), some (.int a2), none] []
  unfold f_X11_feed at hf
  refine s_iload_n C dX11_feed_0 rfl ?_
  refine s_iconst C dX11_feed_1 (v := (1 : Int32)) (by decide) ?_
  refine s_jn hf (fun j10 e10 hf => ?_)
  have k10 : j10  = some r → WW X h 0 0 10 [none, none, none, none] [] := by
    intro  hf
    rw [e10] at hf
    refine s_iconst C dX11_feed_10 (v := (-1 : Int32)) (by decide) ?_
    exact s_ireturn C E dX11_feed_11 hf (Nat.le_of_ble_eq_true rfl) (Nat.le_of_ble_eq_true rfl)
  refine s_icmp_lt (tgt := 10) C dX11_feed_2 (by decide) hf (fun hf => ?_) (fun hf => ?_)
  · refine s_weak (lv' := [none, none, none, none]) trivial ?_
    exact k10 hf
  · refine s_iload_n C dX11_feed_5 rfl ?_
    refine s_iconst C dX11_feed_6 (v := (4 : Int32)) (by decide) ?_
    refine s_icmp_le (tgt := 12) C dX11_feed_7 (by decide) hf (fun hf => ?_) (fun hf => ?_)
    · refine s_aload_n C dX11_feed_12 rfl ?_
      refine s_getR C fl_X11_21 dX11_feed_13 hf (fun v1 hf => ?_)
      refine s_getR C fl_X11_179 dX11_feed_16 hf (fun v2 hf => ?_)
      refine s_iload_n C dX11_feed_19 rfl ?_
      refine s_callV (rvf := fun x => some (.int x)) (st := []) (fr := 0) (lo := 0) (mc := 0) (ms := 0) C [8] wc_X8_hasRoomFor wml_X11_183 wim_X8_hasRoomFor wsl_8_X8_hasRoomFor dX11_feed_20 (As := [.inl a1]) rfl hf (fun x h' hF => c_X8_hasRoomFor _ _ _ _ _ (x, h') hF) rfl (Nat.le_of_ble_eq_true rfl) (room_ok hX (Nat.le_of_ble_eq_true rfl) (Nat.le_of_ble_eq_true rfl)) (cell_ok hX (Nat.le_of_ble_eq_true rfl) (Nat.le_of_ble_eq_true rfl)) (fun v4 h3 hf => ?_)
      refine s_if_ne (tgt := 29) C dX11_feed_23 (by decide) hf (fun hf => ?_) (fun hf => ?_)
      · refine s_iconst C dX11_feed_29 (v := (0 : Int32)) (by decide) ?_
        refine s_istore_n C dX11_feed_30 (by decide) (nc_i rfl) (lv' := [some (rB (xD X).1 o), some (.int a1), some (.int a2), some (.int (0 : Int32))]) rfl ?_
        refine s_lp2 hf (fun G31 z31 q31 hf => ?_)
        have k31 : ∀ (n : Nat) (x5 : Int32) (h6 : AH), G31 n x5 h6 = some r → WW X h6 0 0 31 [some (rB (xD X).1 o), some (.int a1), some (.int a2), some (.int x5)] [] := by
          intro n
          induction n with
          | zero =>
            intro x5 h6 hf
            rw [z31] at hf
            cases hf
          | succ n ih31 =>
            intro x5 h6 hf
            have hf := (q31 n x5 h6).symm.trans hf
            refine s_iload_n C dX11_feed_31 rfl ?_
            refine s_iload_n C dX11_feed_32 rfl ?_
            refine s_icmp_ge (tgt := 62) C dX11_feed_33 (by decide) hf (fun hf => ?_) (fun hf => ?_)
            · refine s_aload_n C dX11_feed_62 rfl ?_
              refine s_getR C fl_X11_21 dX11_feed_63 hf (fun v7 hf => ?_)
              refine s_getR C fl_X11_179 dX11_feed_66 hf (fun v8 hf => ?_)
              refine s_getI C fl_X11_191 dX11_feed_69 hf (fun v9 hf => ?_)
              exact s_ireturn C E dX11_feed_72 hf (Nat.le_of_ble_eq_true rfl) (Nat.le_of_ble_eq_true rfl)
            · refine s_aload_n C dX11_feed_36 rfl ?_
              refine s_getR C fl_X11_21 dX11_feed_37 hf (fun v10 hf => ?_)
              refine s_getR C fl_X11_179 dX11_feed_40 hf (fun v11 hf => ?_)
              refine s_iload_n C dX11_feed_43 rfl ?_
              refine s_bipush C dX11_feed_44 (v := (8 : Int32)) (by decide) ?_
              refine s_iload_n C dX11_feed_46 rfl ?_
              refine s_imul C dX11_feed_47 ?_
              refine s_ishr C dX11_feed_48 ?_
              refine s_sipush C dX11_feed_49 (v := (255 : Int32)) (by decide) ?_
              refine s_iand C dX11_feed_52 ?_
              refine s_callV (rvf := fun _ => none) (st := []) (fr := 0) (lo := 0) (mc := 0) (ms := 0) C [8] wc_X8_append wml_X11_188 wim_X8_append wsl_8_X8_append dX11_feed_53 (As := [.inl ((a2 >>> (((8 : Int32) * x5) &&& 31)) &&& (255 : Int32))]) rfl hf (fun x h' hF => c_X8_append _ _ _ _ _ (x, h') hF) rfl (Nat.le_of_ble_eq_true rfl) (room_ok hX (Nat.le_of_ble_eq_true rfl) (Nat.le_of_ble_eq_true rfl)) (cell_ok hX (Nat.le_of_ble_eq_true rfl) (Nat.le_of_ble_eq_true rfl)) (fun _ h12 hf => ?_)
              refine s_iinc C dX11_feed_56 (v := (x5 + 1)) rfl rfl (by decide) (nc_i rfl) (lv' := [some (rB (xD X).1 o), some (.int a1), some (.int a2), some (.int (x5 + 1))]) rfl ?_
              refine s_goto (tgt := 31) C dX11_feed_59 (by decide) ?_
              exact ih31 _ _ hf
        exact k31 lpN _ _ hf
      · refine s_bipush C dX11_feed_26 (v := (-3 : Int32)) (by decide) ?_
        exact s_ireturn C E dX11_feed_28 hf (Nat.le_of_ble_eq_true rfl) (Nat.le_of_ble_eq_true rfl)
    · refine s_weak (lv' := [none, none, none, none]) trivial ?_
      exact k10 hf
/-- HillBoxes.isCell(I)Z -/
noncomputable def f_X11_isCell (a0 : Int32) (h : AH) : Option (Int32 × AH) :=
  jn (fun (x1 : Int32) =>
    rz x1 h) fun j15 =>
  jn (
    j15 (0 : Int32)) fun j14 =>
  if a0 < 0 then
    j14
  else
    if (60 : Int32) ≤ a0 then
      j14
    else
      j15 (1 : Int32)
set_option maxRecDepth 100000 in
set_option maxHeartbeats 4000000 in
theorem c_X11_isCell (l : Launch) (D : DT) (a0 : Int32) (h : AH) (r : Int32 × AH) (hf : f_X11_isCell a0 h = some r) : CM l D yX11_isCell cX11_isCell 1 (some .boolean) 0 0 0 0 [.inl a0] h (some (.int r.1)) r.2 := by
  refine CM.of (by decide) (Nat.le_of_ble_eq_true rfl) (fun X hl C hD hX hnm E => ?_)
  subst hl
  subst hD
  have C : CX X RX11 cX11_isCell 1 := C
  show WW X h 0 0 0 [some (.int a0)] []
  unfold f_X11_isCell at hf
  refine s_iload_n C dX11_isCell_0 rfl ?_
  refine s_jn hf (fun j15 e15 hf => ?_)
  have k15 : ∀ (x1 : Int32), j15 x1 = some r → WW X h 0 0 15 [none] [.int x1] := by
    intro x1 hf
    rw [e15] at hf
    exact s_zreturn C E dX11_isCell_15 hf (Nat.le_of_ble_eq_true rfl) (Nat.le_of_ble_eq_true rfl)
  refine s_jn hf (fun j14 e14 hf => ?_)
  have k14 : j14  = some r → WW X h 0 0 14 [none] [] := by
    intro  hf
    rw [e14] at hf
    refine s_iconst C dX11_isCell_14 (v := (0 : Int32)) (by decide) ?_
    exact k15 _ hf
  refine s_if_lt (tgt := 14) C dX11_isCell_1 (by decide) hf (fun hf => ?_) (fun hf => ?_)
  · refine s_weak (lv' := [none]) trivial ?_
    exact k14 hf
  · refine s_iload_n C dX11_isCell_4 rfl ?_
    refine s_bipush C dX11_isCell_5 (v := (60 : Int32)) (by decide) ?_
    refine s_icmp_ge (tgt := 14) C dX11_isCell_7 (by decide) hf (fun hf => ?_) (fun hf => ?_)
    · refine s_weak (lv' := [none]) trivial ?_
      exact k14 hf
    · refine s_iconst C dX11_isCell_10 (v := (1 : Int32)) (by decide) ?_
      refine s_goto (tgt := 15) C dX11_isCell_11 (by decide) ?_
      refine s_weak (lv' := [none]) trivial ?_
      exact k15 _ hf
/-- HillBoxes$Finder.<init>(III)V -/
noncomputable def f_X2_init (o : Option Nat) (a1 : Int32) (a2 : Int32) (a3 : Int32) (h : AH) : Option (Unit × AH) :=
  rO h [2] o <| cl (f_X0_init o a1 (7 : Int32) h) fun _ h1 =>
  pI h1 [2] o 4 (-1 : Int32) fun h2 =>
  pI h2 [2] o 2 a2 fun h3 =>
  pI h3 [2] o 3 a3 fun h4 =>
  some ((), h4)
set_option maxRecDepth 100000 in
set_option maxHeartbeats 4000000 in
theorem c_X2_init (l : Launch) (D : DT) (o : Option Nat) (a1 : Int32) (a2 : Int32) (a3 : Int32) (h : AH) (r : Unit × AH) (hf : f_X2_init o a1 a2 a3 h = some r) : CM l D yX2_init cX2_init 4 none 2 42 0 0 [.inr (.inr o), .inl a1, .inl a2, .inl a3] h none r.2 := by
  refine CM.of (by decide) (Nat.le_of_ble_eq_true rfl) (fun X hl C hD hX hnm E => ?_)
  subst hl
  subst hD
  have C : CX X RX2 cX2_init 4 := C
  show WW X h 0 0 0 [some (rB (xD X).1 o), some (.int a1), some (.int a2), some (.int a3)] []
  unfold f_X2_init at hf
  refine s_aload_n C dX2_init_0 rfl ?_
  refine s_iload_n C dX2_init_1 rfl ?_
  refine s_bipush C dX2_init_2 (v := (7 : Int32)) (by decide) ?_
  refine s_callI (st := []) (fr := 1) (lo := 20) (mc := 0) (ms := 0) C wc_X0_init wml_X2_3 wim_X0_init rfl dX2_init_4 (As := [.inl a1, .inl (7 : Int32)]) rfl (a0 := 2) hf (fun h' hF => c_X0_init _ _ _ _ _ _ ((), h') hF) rfl (Nat.le_of_ble_eq_true rfl) (room_ok hX (Nat.le_of_ble_eq_true rfl) (Nat.le_of_ble_eq_true rfl)) (cell_ok hX (Nat.le_of_ble_eq_true rfl) (Nat.le_of_ble_eq_true rfl)) (fun h1 hf => ?_)
  refine s_aload_n C dX2_init_7 rfl ?_
  refine s_iconst C dX2_init_8 (v := (-1 : Int32)) (by decide) ?_
  refine s_putI C fl_X2_9 (by decide) dX2_init_9 hf (fun h2 hf => ?_)
  refine s_aload_n C dX2_init_12 rfl ?_
  refine s_iload_n C dX2_init_13 rfl ?_
  refine s_putFI C fl_X2_15 (by decide) (by decide +kernel) hnm dX2_init_14 hf (fun h3 hf => ?_)
  refine s_aload_n C dX2_init_17 rfl ?_
  refine s_iload_n C dX2_init_18 rfl ?_
  refine s_putFI C fl_X2_18 (by decide) (by decide +kernel) hnm dX2_init_19 hf (fun h4 hf => ?_)
  exact s_return C E dX2_init_22 hf (Nat.le_of_ble_eq_true rfl) (Nat.le_of_ble_eq_true rfl)
/-- HillBoxes.finder(I)I -/
noncomputable def f_X11_finder (o : Option Nat) (a1 : Int32) (h : AH) : Option (Int32 × AH) :=
  cl (f_X11_isCell a1 h) fun v2 h1 =>
  if v2 = 0 then
    some ((-1 : Int32), h1)
  else
    fR h1 [11] o 0 fun v3 =>
    rO h1 [3] v3 <| cl (f_X3_isFull v3 h1) fun v5 h4 =>
    if v5 = 0 then
      fR h4 [11] o 0 fun v6 =>
      nO h4 2 5 fun v7 h8 =>
      fR h8 [11] o 0 fun v9 =>
      fI h8 [3] v9 3 fun v10 =>
      fR h8 [11] o 0 fun v11 =>
      fI h8 [3] v11 0 fun v12 =>
      rO h8 [2] v7 <| cl (f_X2_init v7 v10 a1 v12 h8) fun _ h13 =>
      rO h13 [3] v6 <| cl (f_X3_enter v6 v7 h13) fun v15 h14 =>
      some (v15, h14)
    else
      some ((-3 : Int32), h4)
set_option maxRecDepth 100000 in
set_option maxHeartbeats 4000000 in
theorem c_X11_finder (l : Launch) (D : DT) (o : Option Nat) (a1 : Int32) (h : AH) (r : Int32 × AH) (hf : f_X11_finder o a1 h = some r) : CM l D yX11_finder cX11_finder 2 (some .int) 3 65 1 5 [.inr (.inr o), .inl a1] h (some (.int r.1)) r.2 := by
  refine CM.of (by decide) (Nat.le_of_ble_eq_true rfl) (fun X hl C hD hX hnm E => ?_)
  subst hl
  subst hD
  have C : CX X RX11 cX11_finder 2 := C
  show WW X h 0 0 0 [some (rB (xD X).1 o), some (.int a1)] []
  unfold f_X11_finder at hf
  refine s_iload_n C dX11_finder_0 rfl ?_
  refine s_callS (rvf := fun x => some (.int x)) (st := []) (fr := 0) (lo := 0) (mc := 0) (ms := 0) C wc_X11_isCell wml_X11_56 wst_X11_isCell dX11_finder_1 (As := [.inl a1]) rfl hf (fun x h' hF => c_X11_isCell _ _ _ _ (x, h') hF) rfl (Nat.le_of_ble_eq_true rfl) (room_ok hX (Nat.le_of_ble_eq_true rfl) (Nat.le_of_ble_eq_true rfl)) (cell_ok hX (Nat.le_of_ble_eq_true rfl) (Nat.le_of_ble_eq_true rfl)) (fun v2 h1 hf => ?_)
  refine s_if_ne (tgt := 9) C dX11_finder_4 (by decide) hf (fun hf => ?_) (fun hf => ?_)
  · refine s_aload_n C dX11_finder_9 rfl ?_
    refine s_getR C fl_X11_10 dX11_finder_10 hf (fun v3 hf => ?_)
    refine s_callV (rvf := fun x => some (.int x)) (st := []) (fr := 0) (lo := 0) (mc := 0) (ms := 0) C [3] wc_X3_isFull wml_X11_64 wim_X3_isFull wsl_3_X3_isFull dX11_finder_13 (As := []) rfl hf (fun x h' hF => c_X3_isFull _ _ _ _ (x, h') hF) rfl (Nat.le_of_ble_eq_true rfl) (room_ok hX (Nat.le_of_ble_eq_true rfl) (Nat.le_of_ble_eq_true rfl)) (cell_ok hX (Nat.le_of_ble_eq_true rfl) (Nat.le_of_ble_eq_true rfl)) (fun v5 h4 hf => ?_)
    refine s_if_eq (tgt := 22) C dX11_finder_16 (by decide) hf (fun hf => ?_) (fun hf => ?_)
    · refine s_aload_n C dX11_finder_22 rfl ?_
      refine s_getR C fl_X11_10 dX11_finder_23 hf (fun v6 hf => ?_)
      refine s_new C (t := 2) (n := 5) (by decide) rfl wcl_X11_85 wins_X2 wini_X2 dX11_finder_26 hf (cell1 hX (Nat.le_of_ble_eq_true rfl)) (cell2 hX (Nat.le_of_ble_eq_true rfl)) (fun v7 h8 hf => ?_)
      refine s_dup C dX11_finder_29 c1_r ?_
      refine s_aload_n C dX11_finder_30 rfl ?_
      refine s_getR C fl_X11_10 dX11_finder_31 hf (fun v9 hf => ?_)
      refine s_getI C fl_X11_70 dX11_finder_34 hf (fun v10 hf => ?_)
      refine s_iload_n C dX11_finder_37 rfl ?_
      refine s_aload_n C dX11_finder_38 rfl ?_
      refine s_getR C fl_X11_10 dX11_finder_39 hf (fun v11 hf => ?_)
      refine s_getI C fl_X11_52 dX11_finder_42 hf (fun v12 hf => ?_)
      refine s_callI (st := [rB (xD X).1 v7, rB (xD X).1 v6]) (fr := 2) (lo := 42) (mc := 0) (ms := 0) C wc_X2_init wml_X11_87 wim_X2_init rfl dX11_finder_45 (As := [.inl v10, .inl a1, .inl v12]) rfl (a0 := 2) hf (fun h' hF => c_X2_init _ _ _ _ _ _ _ ((), h') hF) rfl (Nat.le_of_ble_eq_true rfl) (room_ok hX (Nat.le_of_ble_eq_true rfl) (Nat.le_of_ble_eq_true rfl)) (cell_ok hX (Nat.le_of_ble_eq_true rfl) (Nat.le_of_ble_eq_true rfl)) (fun h13 hf => ?_)
      refine s_callV (rvf := fun x => some (.int x)) (st := []) (fr := 0) (lo := 0) (mc := 0) (ms := 0) C [3] wc_X3_enter wml_X11_81 wim_X3_enter wsl_3_X3_enter dX11_finder_48 (As := [.inr (.inr v7)]) rfl hf (fun x h' hF => c_X3_enter _ _ _ _ _ (x, h') hF) rfl (Nat.le_of_ble_eq_true rfl) (room_ok hX (Nat.le_of_ble_eq_true rfl) (Nat.le_of_ble_eq_true rfl)) (cell_ok hX (Nat.le_of_ble_eq_true rfl) (Nat.le_of_ble_eq_true rfl)) (fun v15 h14 hf => ?_)
      exact s_ireturn C E dX11_finder_51 hf (Nat.le_of_ble_eq_true rfl) (Nat.le_of_ble_eq_true rfl)
    · refine s_bipush C dX11_finder_19 (v := (-3 : Int32)) (by decide) ?_
      exact s_ireturn C E dX11_finder_21 hf (Nat.le_of_ble_eq_true rfl) (Nat.le_of_ble_eq_true rfl)
  · refine s_iconst C dX11_finder_7 (v := (-1 : Int32)) (by decide) ?_
    exact s_ireturn C E dX11_finder_8 hf (Nat.le_of_ble_eq_true rfl) (Nat.le_of_ble_eq_true rfl)
/-- HillBoxes$Rules.ruleFor(III)I -/
noncomputable def f_X6_ruleFor (o : Option Nat) (a1 : Int32) (a2 : Int32) (a3 : Int32) (h : AH) : Option (Int32 × AH) :=
  fI h [6] o 1 fun v1 =>
  lp (fun _ => none) (fun (L8 : Int32 → Option (Int32 × AH)) (x2 : Int32) =>
    if x2 < 0 then
      some ((-1 : Int32), h)
    else
      fR h [6] o 4 fun v3 =>
      aI h 20 v3 x2 fun v4 =>
      jn (
        L8 (x2 + (-1))) fun j49 =>
      if v4 = a1 then
        fR h [6] o 5 fun v5 =>
        aI h 20 v5 x2 fun v6 =>
        if a3 < v6 then
          j49
        else
          fR h [6] o 6 fun v7 =>
          aI h 20 v7 x2 fun v8 =>
          if a2 < v8 then
            j49
          else
            some (x2, h)
      else
        j49) lpN (v1 - (1 : Int32))
set_option maxRecDepth 100000 in
set_option maxHeartbeats 4000000 in
theorem c_X6_ruleFor (l : Launch) (D : DT) (o : Option Nat) (a1 : Int32) (a2 : Int32) (a3 : Int32) (h : AH) (r : Int32 × AH) (hf : f_X6_ruleFor o a1 a2 a3 h = some r) : CM l D yX6_ruleFor cX6_ruleFor 5 (some .int) 0 0 0 0 [.inr (.inr o), .inl a1, .inl a2, .inl a3] h (some (.int r.1)) r.2 := by
  refine CM.of (by decide) (Nat.le_of_ble_eq_true rfl) (fun X hl C hD hX hnm E => ?_)
  subst hl
  subst hD
  have C : CX X RX6 cX6_ruleFor 5 := C
  show WW X h 0 0 0 [some (rB (xD X).1 o), some (.int a1), some (.int a2), some (.int a3), none] []
  unfold f_X6_ruleFor at hf
  refine s_aload_n C dX6_ruleFor_0 rfl ?_
  refine s_getI C fl_X6_45 dX6_ruleFor_1 hf (fun v1 hf => ?_)
  refine s_iconst C dX6_ruleFor_4 (v := (1 : Int32)) (by decide) ?_
  refine s_isub C dX6_ruleFor_5 ?_
  refine s_istore C dX6_ruleFor_6 (by decide) (nc_i rfl) (lv' := [some (rB (xD X).1 o), some (.int a1), some (.int a2), some (.int a3), some (.int (v1 - (1 : Int32)))]) rfl ?_
  refine s_lp1 hf (fun G8 z8 q8 hf => ?_)
  have k8 : ∀ (n : Nat) (x2 : Int32), G8 n x2 = some r → WW X h 0 0 8 [some (rB (xD X).1 o), some (.int a1), some (.int a2), some (.int a3), some (.int x2)] [] := by
    intro n
    induction n with
    | zero =>
      intro x2 hf
      rw [z8] at hf
      cases hf
    | succ n ih8 =>
      intro x2 hf
      have hf := (q8 n x2).symm.trans hf
      refine s_iload C dX6_ruleFor_8 rfl ?_
      refine s_if_lt (tgt := 55) C dX6_ruleFor_10 (by decide) hf (fun hf => ?_) (fun hf => ?_)
      · refine s_iconst C dX6_ruleFor_55 (v := (-1 : Int32)) (by decide) ?_
        exact s_ireturn C E dX6_ruleFor_56 hf (Nat.le_of_ble_eq_true rfl) (Nat.le_of_ble_eq_true rfl)
      · refine s_aload_n C dX6_ruleFor_13 rfl ?_
        refine s_getR C fl_X6_22 dX6_ruleFor_14 hf (fun v3 hf => ?_)
        refine s_iload C dX6_ruleFor_17 rfl ?_
        refine s_iaload C dX6_ruleFor_19 hf (fun v4 hf => ?_)
        refine s_iload_n C dX6_ruleFor_20 rfl ?_
        refine s_jn hf (fun j49 e49 hf => ?_)
        have k49 : j49  = some r → WW X h 0 0 49 [some (rB (xD X).1 o), some (.int a1), some (.int a2), some (.int a3), some (.int x2)] [] := by
          intro  hf
          rw [e49] at hf
          refine s_iinc C dX6_ruleFor_49 (v := (x2 + (-1))) rfl rfl (by decide) (nc_i rfl) (lv' := [some (rB (xD X).1 o), some (.int a1), some (.int a2), some (.int a3), some (.int (x2 + (-1)))]) rfl ?_
          refine s_goto (tgt := 8) C dX6_ruleFor_52 (by decide) ?_
          exact ih8 _ hf
        refine s_icmp_ne (tgt := 49) C dX6_ruleFor_21 (by decide) hf (fun hf => ?_) (fun hf => ?_)
        · exact k49 hf
        · refine s_aload_n C dX6_ruleFor_24 rfl ?_
          refine s_getR C fl_X6_26 dX6_ruleFor_25 hf (fun v5 hf => ?_)
          refine s_iload C dX6_ruleFor_28 rfl ?_
          refine s_iaload C dX6_ruleFor_30 hf (fun v6 hf => ?_)
          refine s_iload_n C dX6_ruleFor_31 rfl ?_
          refine s_icmp_gt (tgt := 49) C dX6_ruleFor_32 (by decide) hf (fun hf => ?_) (fun hf => ?_)
          · exact k49 hf
          · refine s_aload_n C dX6_ruleFor_35 rfl ?_
            refine s_getR C fl_X6_29 dX6_ruleFor_36 hf (fun v7 hf => ?_)
            refine s_iload C dX6_ruleFor_39 rfl ?_
            refine s_iaload C dX6_ruleFor_41 hf (fun v8 hf => ?_)
            refine s_iload_n C dX6_ruleFor_42 rfl ?_
            refine s_icmp_gt (tgt := 49) C dX6_ruleFor_43 (by decide) hf (fun hf => ?_) (fun hf => ?_)
            · exact k49 hf
            · refine s_iload C dX6_ruleFor_46 rfl ?_
              exact s_ireturn C E dX6_ruleFor_48 hf (Nat.le_of_ble_eq_true rfl) (Nat.le_of_ble_eq_true rfl)
  exact k8 lpN _ hf
/-- HillBoxes$Hills.ownOf(I)I -/
noncomputable def f_X3_ownOf (o : Option Nat) (a1 : Int32) (h : AH) : Option (Int32 × AH) :=
  lp (fun _ _ _ => none) (fun (L4 : Int32 → Int32 → AH → Option (Int32 × AH)) (x1 : Int32) (x2 : Int32) (h3 : AH) =>
    fI h3 [3] o 3 fun v4 =>
    if v4 ≤ x2 then
      some (x1, h3)
    else
      rO h3 [3] o <| cl (f_X3_boxAt o x2 h3) fun v6 h5 =>
      jn (fun (x7 : Int32) =>
        L4 x7 (x2 + 1) h5) fun j44 =>
      if v6 = none then
        j44 x1
      else
        fI h5 [1] v6 8 fun v8 =>
        if v8 = a1 then
          fI h5 [1] v6 11 fun v9 =>
          if 0 ≤ v9 then
            j44 x1
          else
            j44 (x1 + 1)
        else
          j44 x1) lpN (0 : Int32) (0 : Int32) h
set_option maxRecDepth 100000 in
set_option maxHeartbeats 4000000 in
theorem c_X3_ownOf (l : Launch) (D : DT) (o : Option Nat) (a1 : Int32) (h : AH) (r : Int32 × AH) (hf : f_X3_ownOf o a1 h = some r) : CM l D yX3_ownOf cX3_ownOf 5 (some .int) 1 22 0 0 [.inr (.inr o), .inl a1] h (some (.int r.1)) r.2 := by
  refine CM.of (by decide) (Nat.le_of_ble_eq_true rfl) (fun X hl C hD hX hnm E => ?_)
  subst hl
  subst hD
  have C : CX X RX3 cX3_ownOf 5 := C
  show WW X h 0 0 0 [some (rB (xD X).1 o), some (.int a1), none, none, none] []
  unfold f_X3_ownOf at hf
  refine s_iconst C dX3_ownOf_0 (v := (0 : Int32)) (by decide) ?_
  refine s_istore_n C dX3_ownOf_1 (by decide) (nc_i rfl) (lv' := [some (rB (xD X).1 o), some (.int a1), some (.int (0 : Int32)), none, none]) rfl ?_
  refine s_iconst C dX3_ownOf_2 (v := (0 : Int32)) (by decide) ?_
  refine s_istore_n C dX3_ownOf_3 (by decide) (nc_i rfl) (lv' := [some (rB (xD X).1 o), some (.int a1), some (.int (0 : Int32)), some (.int (0 : Int32)), none]) rfl ?_
  refine s_lp3 hf (fun G4 z4 q4 hf => ?_)
  have k4 : ∀ (n : Nat) (x1 : Int32) (x2 : Int32) (h3 : AH), G4 n x1 x2 h3 = some r → WW X h3 0 0 4 [some (rB (xD X).1 o), some (.int a1), some (.int x1), some (.int x2), none] [] := by
    intro n
    induction n with
    | zero =>
      intro x1 x2 h3 hf
      rw [z4] at hf
      cases hf
    | succ n ih4 =>
      intro x1 x2 h3 hf
      have hf := (q4 n x1 x2 h3).symm.trans hf
      refine s_iload_n C dX3_ownOf_4 rfl ?_
      refine s_aload_n C dX3_ownOf_5 rfl ?_
      refine s_getI C fl_X3_39 dX3_ownOf_6 hf (fun v4 hf => ?_)
      refine s_icmp_ge (tgt := 50) C dX3_ownOf_9 (by decide) hf (fun hf => ?_) (fun hf => ?_)
      · refine s_iload_n C dX3_ownOf_50 rfl ?_
        exact s_ireturn C E dX3_ownOf_51 hf (Nat.le_of_ble_eq_true rfl) (Nat.le_of_ble_eq_true rfl)
      · refine s_aload_n C dX3_ownOf_12 rfl ?_
        refine s_iload_n C dX3_ownOf_13 rfl ?_
        refine s_callV (rvf := fun x => some (rB (xD X).1 x)) (st := []) (fr := 0) (lo := 0) (mc := 0) (ms := 0) C [3] wc_X3_boxAt wml_X3_52 wim_X3_boxAt wsl_3_X3_boxAt dX3_ownOf_14 (As := [.inl x2]) rfl hf (fun x h' hF => c_X3_boxAt _ _ _ _ _ (x, h') hF) rfl (Nat.le_of_ble_eq_true rfl) (room_ok hX (Nat.le_of_ble_eq_true rfl) (Nat.le_of_ble_eq_true rfl)) (cell_ok hX (Nat.le_of_ble_eq_true rfl) (Nat.le_of_ble_eq_true rfl)) (fun v6 h5 hf => ?_)
        refine s_astore C dX3_ownOf_17 (by decide) (nc_i rfl) (lv' := [some (rB (xD X).1 o), some (.int a1), some (.int x1), some (.int x2), some (rB (xD X).1 v6)]) rfl ?_
        refine s_aload C dX3_ownOf_19 rfl ?_
        refine s_jn hf (fun j44 e44 hf => ?_)
        have k44 : ∀ (x7 : Int32), j44 x7 = some r → WW X h5 0 0 44 [some (rB (xD X).1 o), some (.int a1), some (.int x7), some (.int x2), none] [] := by
          intro x7 hf
          rw [e44] at hf
          refine s_iinc C dX3_ownOf_44 (v := (x2 + 1)) rfl rfl (by decide) (nc_i rfl) (lv' := [some (rB (xD X).1 o), some (.int a1), some (.int x7), some (.int (x2 + 1)), none]) rfl ?_
          refine s_goto (tgt := 4) C dX3_ownOf_47 (by decide) ?_
          exact ih4 _ _ _ hf
        refine s_ifnull (tgt := 44) C dX3_ownOf_21 (by decide) hf (fun hf => ?_) (fun hf => ?_)
        · refine s_weak (lv' := [some (rB (xD X).1 o), some (.int a1), some (.int x1), some (.int x2), none]) ⟨rfl, ⟨rfl, ⟨rfl, ⟨rfl, trivial⟩⟩⟩⟩ ?_
          exact k44 _ hf
        · refine s_aload C dX3_ownOf_24 rfl ?_
          refine s_getI C fl_X3_56 dX3_ownOf_26 hf (fun v8 hf => ?_)
          refine s_iload_n C dX3_ownOf_29 rfl ?_
          refine s_icmp_ne (tgt := 44) C dX3_ownOf_30 (by decide) hf (fun hf => ?_) (fun hf => ?_)
          · refine s_weak (lv' := [some (rB (xD X).1 o), some (.int a1), some (.int x1), some (.int x2), none]) ⟨rfl, ⟨rfl, ⟨rfl, ⟨rfl, trivial⟩⟩⟩⟩ ?_
            exact k44 _ hf
          · refine s_aload C dX3_ownOf_33 rfl ?_
            refine s_getI C fl_X3_59 dX3_ownOf_35 hf (fun v9 hf => ?_)
            refine s_if_ge (tgt := 44) C dX3_ownOf_38 (by decide) hf (fun hf => ?_) (fun hf => ?_)
            · refine s_weak (lv' := [some (rB (xD X).1 o), some (.int a1), some (.int x1), some (.int x2), none]) ⟨rfl, ⟨rfl, ⟨rfl, ⟨rfl, trivial⟩⟩⟩⟩ ?_
              exact k44 _ hf
            · refine s_iinc C dX3_ownOf_41 (v := (x1 + 1)) rfl rfl (by decide) (nc_i rfl) (lv' := [some (rB (xD X).1 o), some (.int a1), some (.int (x1 + 1)), some (.int x2), some (rB (xD X).1 v6)]) rfl ?_
              refine s_weak (lv' := [some (rB (xD X).1 o), some (.int a1), some (.int (x1 + 1)), some (.int x2), none]) ⟨rfl, ⟨rfl, ⟨rfl, ⟨rfl, trivial⟩⟩⟩⟩ ?_
              exact k44 _ hf
  exact k4 lpN _ _ _ hf
/-- HillBoxes$Rules.numberOf(I)I -/
noncomputable def f_X6_numberOf (o : Option Nat) (a1 : Int32) (h : AH) : Option (Int32 × AH) :=
  fR h [6] o 11 fun v1 =>
  fR h [6] o 12 fun v2 =>
  if a1 = 0 then
    fI h [6] o 10 fun v3 =>
    some (v3, h)
  else
  if a1 = 1 then
    fI h [6] o 13 fun v4 =>
    some (v4, h)
  else
  if a1 = 2 then
    jn (fun (x5 : Int32) (h6 : AH) =>
      some (x5, h6)) fun j97 =>
    if v1 = none then
      j97 (0 : Int32) h
    else
      fR h [6] o 3 fun v7 =>
      fI h [2] v1 0 fun v8 =>
      rO h [3] v7 <| cl (f_X3_ownOf v7 v8 h) fun v10 h9 =>
      j97 v10 h9
  else
  if a1 = 3 then
    jn (fun (x11 : Int32) =>
      some (x11, h)) fun j115 =>
    if v1 = none then
      j115 (0 : Int32)
    else
      fI h [6] o 10 fun v12 =>
      fI h [2] v1 3 fun v13 =>
      j115 (v12 - v13)
  else
  if a1 = 4 then
    jn (fun (x14 : Int32) =>
      some (x14, h)) fun j133 =>
    if v2 = none then
      j133 (0 : Int32)
    else
      fI h [6] o 10 fun v15 =>
      fI h [1] v2 2 fun v16 =>
      j133 (v15 - v16)
  else
  if a1 = 5 then
    jn (fun (x17 : Int32) =>
      some (x17, h)) fun j146 =>
    if v2 = none then
      j146 (0 : Int32)
    else
      fI h [1] v2 12 fun v18 =>
      j146 v18
  else
  if a1 = 6 then
    jn (fun (x19 : Int32) =>
      some (x19, h)) fun j159 =>
    if v2 = none then
      j159 (0 : Int32)
    else
      fI h [1] v2 13 fun v20 =>
      j159 v20
  else
  if a1 = 7 then
    fI h [6] o 15 fun v21 =>
    some (v21, h)
  else
  if a1 = 8 then
    jn (fun (x22 : Int32) (h23 : AH) =>
      some (x22, h23)) fun j191 =>
    jn (
      j191 (0 : Int32) h) fun j176 =>
    if v1 = none then
      j176
    else
      fI h [6] o 14 fun v24 =>
      if 0 ≤ v24 then
        fI h [2] v1 2 fun v25 =>
        fI h [6] o 14 fun v26 =>
        cl (f_X11_far v25 v26 h) fun v28 h27 =>
        j191 v28 h27
      else
        j176
  else
  if a1 = 9 then
    jn (fun (x29 : Int32) (h30 : AH) =>
      some (x29, h30)) fun j216 =>
    jn (fun (h31 : AH) =>
      j216 (0 : Int32) h31) fun j215 =>
    if v1 = none then
      j215 h
    else
      if v2 = none then
        j215 h
      else
        fI h [2] v1 0 fun v32 =>
        rO h [1] v2 <| cl (f_X1_isOnPaper v2 v32 h) fun v34 h33 =>
        if v34 = 0 then
          j215 h33
        else
          j216 (1 : Int32) h33
  else
  if a1 = 10 then
    jn (fun (x35 : Int32) =>
      some (x35, h)) fun j241 =>
    jn (
      j241 (0 : Int32)) fun j240 =>
    if v1 = none then
      j240
    else
      if v2 = none then
        j240
      else
        fI h [1] v2 8 fun v36 =>
        fI h [2] v1 0 fun v37 =>
        if v36 = v37 then
          j241 (1 : Int32)
        else
          j240
  else
    some ((0 : Int32), h)
set_option maxRecDepth 100000 in
set_option maxHeartbeats 4000000 in
theorem c_X6_numberOf (l : Launch) (D : DT) (o : Option Nat) (a1 : Int32) (h : AH) (r : Int32 × AH) (hf : f_X6_numberOf o a1 h = some r) : CM l D yX6_numberOf cX6_numberOf 4 (some .int) 2 46 0 0 [.inr (.inr o), .inl a1] h (some (.int r.1)) r.2 := by
  refine CM.of (by decide) (Nat.le_of_ble_eq_true rfl) (fun X hl C hD hX hnm E => ?_)
  subst hl
  subst hD
  have C : CX X RX6 cX6_numberOf 4 := C
  show WW X h 0 0 0 [some (rB (xD X).1 o), some (.int a1), none, none] []
  unfold f_X6_numberOf at hf
  refine s_aload_n C dX6_numberOf_0 rfl ?_
  refine s_getR C fl_X6_67 dX6_numberOf_1 hf (fun v1 hf => ?_)
  refine s_astore_n C dX6_numberOf_4 (by decide) (nc_i rfl) (lv' := [some (rB (xD X).1 o), some (.int a1), some (rB (xD X).1 v1), none]) rfl ?_
  refine s_aload_n C dX6_numberOf_5 rfl ?_
  refine s_getR C fl_X6_71 dX6_numberOf_6 hf (fun v2 hf => ?_)
  refine s_astore_n C dX6_numberOf_9 (by decide) (nc_r rfl) (lv' := [some (rB (xD X).1 o), some (.int a1), some (rB (xD X).1 v1), some (rB (xD X).1 v2)]) rfl ?_
  refine s_iload_n C dX6_numberOf_10 rfl ?_
  refine s_ite hf (fun e hf => ?_) (fun n0 hf => ?_)
  · refine s_tsw1 (tgt := 68) C dX6_numberOf_11 e (by decide) (by decide) rfl (by decide) ?_
    refine s_aload_n C dX6_numberOf_68 rfl ?_
    refine s_getI C fl_X6_64 dX6_numberOf_69 hf (fun v3 hf => ?_)
    exact s_ireturn C E dX6_numberOf_72 hf (Nat.le_of_ble_eq_true rfl) (Nat.le_of_ble_eq_true rfl)
  refine s_ite hf (fun e hf => ?_) (fun n1 hf => ?_)
  · refine s_tsw1 (tgt := 73) C dX6_numberOf_11 e (by decide) (by decide) rfl (by decide) ?_
    refine s_aload_n C dX6_numberOf_73 rfl ?_
    refine s_getI C fl_X6_80 dX6_numberOf_74 hf (fun v4 hf => ?_)
    exact s_ireturn C E dX6_numberOf_77 hf (Nat.le_of_ble_eq_true rfl) (Nat.le_of_ble_eq_true rfl)
  refine s_ite hf (fun e hf => ?_) (fun n2 hf => ?_)
  · refine s_tsw1 (tgt := 78) C dX6_numberOf_11 e (by decide) (by decide) rfl (by decide) ?_
    refine s_aload_n C dX6_numberOf_78 rfl ?_
    refine s_jn hf (fun j97 e97 hf => ?_)
    have k97 : ∀ (x5 : Int32) (h6 : AH), j97 x5 h6 = some r → WW X h6 0 0 97 [none, none, none, none] [.int x5] := by
      intro x5 h6 hf
      rw [e97] at hf
      exact s_ireturn C E dX6_numberOf_97 hf (Nat.le_of_ble_eq_true rfl) (Nat.le_of_ble_eq_true rfl)
    refine s_ifnonnull (tgt := 86) C dX6_numberOf_79 (by decide) hf (fun hf => ?_) (fun hf => ?_)
    · refine s_aload_n C dX6_numberOf_86 rfl ?_
      refine s_getR C fl_X6_41 dX6_numberOf_87 hf (fun v7 hf => ?_)
      refine s_aload_n C dX6_numberOf_90 rfl ?_
      refine s_getI C fl_X6_186 dX6_numberOf_91 hf (fun v8 hf => ?_)
      refine s_callV (rvf := fun x => some (.int x)) (st := []) (fr := 1) (lo := 22) (mc := 0) (ms := 0) C [3] wc_X3_ownOf wml_X6_189 wim_X3_ownOf wsl_3_X3_ownOf dX6_numberOf_94 (As := [.inl v8]) rfl hf (fun x h' hF => c_X3_ownOf _ _ _ _ _ (x, h') hF) rfl (Nat.le_of_ble_eq_true rfl) (room_ok hX (Nat.le_of_ble_eq_true rfl) (Nat.le_of_ble_eq_true rfl)) (cell_ok hX (Nat.le_of_ble_eq_true rfl) (Nat.le_of_ble_eq_true rfl)) (fun v10 h9 hf => ?_)
      refine s_weak (lv' := [none, none, none, none]) trivial ?_
      exact k97 _ _ hf
    · refine s_iconst C dX6_numberOf_82 (v := (0 : Int32)) (by decide) ?_
      refine s_goto (tgt := 97) C dX6_numberOf_83 (by decide) ?_
      refine s_weak (lv' := [none, none, none, none]) trivial ?_
      exact k97 _ _ hf
  refine s_ite hf (fun e hf => ?_) (fun n3 hf => ?_)
  · refine s_tsw1 (tgt := 98) C dX6_numberOf_11 e (by decide) (by decide) rfl (by decide) ?_
    refine s_aload_n C dX6_numberOf_98 rfl ?_
    refine s_jn hf (fun j115 e115 hf => ?_)
    have k115 : ∀ (x11 : Int32), j115 x11 = some r → WW X h 0 0 115 [none, none, none, none] [.int x11] := by
      intro x11 hf
      rw [e115] at hf
      exact s_ireturn C E dX6_numberOf_115 hf (Nat.le_of_ble_eq_true rfl) (Nat.le_of_ble_eq_true rfl)
    refine s_ifnonnull (tgt := 106) C dX6_numberOf_99 (by decide) hf (fun hf => ?_) (fun hf => ?_)
    · refine s_aload_n C dX6_numberOf_106 rfl ?_
      refine s_getI C fl_X6_64 dX6_numberOf_107 hf (fun v12 hf => ?_)
      refine s_aload_n C dX6_numberOf_110 rfl ?_
      refine s_getI C fl_X6_192 dX6_numberOf_111 hf (fun v13 hf => ?_)
      refine s_isub C dX6_numberOf_114 ?_
      refine s_weak (lv' := [none, none, none, none]) trivial ?_
      exact k115 _ hf
    · refine s_iconst C dX6_numberOf_102 (v := (0 : Int32)) (by decide) ?_
      refine s_goto (tgt := 115) C dX6_numberOf_103 (by decide) ?_
      refine s_weak (lv' := [none, none, none, none]) trivial ?_
      exact k115 _ hf
  refine s_ite hf (fun e hf => ?_) (fun n4 hf => ?_)
  · refine s_tsw1 (tgt := 116) C dX6_numberOf_11 e (by decide) (by decide) rfl (by decide) ?_
    refine s_aload_n C dX6_numberOf_116 rfl ?_
    refine s_jn hf (fun j133 e133 hf => ?_)
    have k133 : ∀ (x14 : Int32), j133 x14 = some r → WW X h 0 0 133 [none, none, none, none] [.int x14] := by
      intro x14 hf
      rw [e133] at hf
      exact s_ireturn C E dX6_numberOf_133 hf (Nat.le_of_ble_eq_true rfl) (Nat.le_of_ble_eq_true rfl)
    refine s_ifnonnull (tgt := 124) C dX6_numberOf_117 (by decide) hf (fun hf => ?_) (fun hf => ?_)
    · refine s_aload_n C dX6_numberOf_124 rfl ?_
      refine s_getI C fl_X6_64 dX6_numberOf_125 hf (fun v15 hf => ?_)
      refine s_aload_n C dX6_numberOf_128 rfl ?_
      refine s_getI C fl_X6_195 dX6_numberOf_129 hf (fun v16 hf => ?_)
      refine s_isub C dX6_numberOf_132 ?_
      refine s_weak (lv' := [none, none, none, none]) trivial ?_
      exact k133 _ hf
    · refine s_iconst C dX6_numberOf_120 (v := (0 : Int32)) (by decide) ?_
      refine s_goto (tgt := 133) C dX6_numberOf_121 (by decide) ?_
      refine s_weak (lv' := [none, none, none, none]) trivial ?_
      exact k133 _ hf
  refine s_ite hf (fun e hf => ?_) (fun n5 hf => ?_)
  · refine s_tsw1 (tgt := 134) C dX6_numberOf_11 e (by decide) (by decide) rfl (by decide) ?_
    refine s_aload_n C dX6_numberOf_134 rfl ?_
    refine s_jn hf (fun j146 e146 hf => ?_)
    have k146 : ∀ (x17 : Int32), j146 x17 = some r → WW X h 0 0 146 [none, none, none, none] [.int x17] := by
      intro x17 hf
      rw [e146] at hf
      exact s_ireturn C E dX6_numberOf_146 hf (Nat.le_of_ble_eq_true rfl) (Nat.le_of_ble_eq_true rfl)
    refine s_ifnonnull (tgt := 142) C dX6_numberOf_135 (by decide) hf (fun hf => ?_) (fun hf => ?_)
    · refine s_aload_n C dX6_numberOf_142 rfl ?_
      refine s_getI C fl_X6_198 dX6_numberOf_143 hf (fun v18 hf => ?_)
      refine s_weak (lv' := [none, none, none, none]) trivial ?_
      exact k146 _ hf
    · refine s_iconst C dX6_numberOf_138 (v := (0 : Int32)) (by decide) ?_
      refine s_goto (tgt := 146) C dX6_numberOf_139 (by decide) ?_
      refine s_weak (lv' := [none, none, none, none]) trivial ?_
      exact k146 _ hf
  refine s_ite hf (fun e hf => ?_) (fun n6 hf => ?_)
  · refine s_tsw1 (tgt := 147) C dX6_numberOf_11 e (by decide) (by decide) rfl (by decide) ?_
    refine s_aload_n C dX6_numberOf_147 rfl ?_
    refine s_jn hf (fun j159 e159 hf => ?_)
    have k159 : ∀ (x19 : Int32), j159 x19 = some r → WW X h 0 0 159 [none, none, none, none] [.int x19] := by
      intro x19 hf
      rw [e159] at hf
      exact s_ireturn C E dX6_numberOf_159 hf (Nat.le_of_ble_eq_true rfl) (Nat.le_of_ble_eq_true rfl)
    refine s_ifnonnull (tgt := 155) C dX6_numberOf_148 (by decide) hf (fun hf => ?_) (fun hf => ?_)
    · refine s_aload_n C dX6_numberOf_155 rfl ?_
      refine s_getI C fl_X6_201 dX6_numberOf_156 hf (fun v20 hf => ?_)
      refine s_weak (lv' := [none, none, none, none]) trivial ?_
      exact k159 _ hf
    · refine s_iconst C dX6_numberOf_151 (v := (0 : Int32)) (by decide) ?_
      refine s_goto (tgt := 159) C dX6_numberOf_152 (by decide) ?_
      refine s_weak (lv' := [none, none, none, none]) trivial ?_
      exact k159 _ hf
  refine s_ite hf (fun e hf => ?_) (fun n7 hf => ?_)
  · refine s_tsw1 (tgt := 160) C dX6_numberOf_11 e (by decide) (by decide) rfl (by decide) ?_
    refine s_aload_n C dX6_numberOf_160 rfl ?_
    refine s_getI C fl_X6_89 dX6_numberOf_161 hf (fun v21 hf => ?_)
    exact s_ireturn C E dX6_numberOf_164 hf (Nat.le_of_ble_eq_true rfl) (Nat.le_of_ble_eq_true rfl)
  refine s_ite hf (fun e hf => ?_) (fun n8 hf => ?_)
  · refine s_tsw1 (tgt := 165) C dX6_numberOf_11 e (by decide) (by decide) rfl (by decide) ?_
    refine s_aload_n C dX6_numberOf_165 rfl ?_
    refine s_jn hf (fun j191 e191 hf => ?_)
    have k191 : ∀ (x22 : Int32) (h23 : AH), j191 x22 h23 = some r → WW X h23 0 0 191 [none, none, none, none] [.int x22] := by
      intro x22 h23 hf
      rw [e191] at hf
      exact s_ireturn C E dX6_numberOf_191 hf (Nat.le_of_ble_eq_true rfl) (Nat.le_of_ble_eq_true rfl)
    refine s_jn hf (fun j176 e176 hf => ?_)
    have k176 : j176  = some r → WW X h 0 0 176 [none, none, none, none] [] := by
      intro  hf
      rw [e176] at hf
      refine s_iconst C dX6_numberOf_176 (v := (0 : Int32)) (by decide) ?_
      refine s_goto (tgt := 191) C dX6_numberOf_177 (by decide) ?_
      exact k191 _ _ hf
    refine s_ifnull (tgt := 176) C dX6_numberOf_166 (by decide) hf (fun hf => ?_) (fun hf => ?_)
    · refine s_weak (lv' := [none, none, none, none]) trivial ?_
      exact k176 hf
    · refine s_aload_n C dX6_numberOf_169 rfl ?_
      refine s_getI C fl_X6_86 dX6_numberOf_170 hf (fun v24 hf => ?_)
      refine s_if_ge (tgt := 180) C dX6_numberOf_173 (by decide) hf (fun hf => ?_) (fun hf => ?_)
      · refine s_aload_n C dX6_numberOf_180 rfl ?_
        refine s_getI C fl_X6_204 dX6_numberOf_181 hf (fun v25 hf => ?_)
        refine s_aload_n C dX6_numberOf_184 rfl ?_
        refine s_getI C fl_X6_86 dX6_numberOf_185 hf (fun v26 hf => ?_)
        refine s_callSN (rvf := fun x => some (.int x)) (st := []) (fr := 1) (lo := 21) (mc := 0) (ms := 0) C wc_X11_far wmn_X6_169 wst_X11_far dX6_numberOf_188 (As := [.inl v25, .inl v26]) rfl hf (fun x h' hF => c_X11_far _ _ _ _ _ (x, h') hF) rfl (Nat.le_of_ble_eq_true rfl) (room_ok hX (Nat.le_of_ble_eq_true rfl) (Nat.le_of_ble_eq_true rfl)) (cell_ok hX (Nat.le_of_ble_eq_true rfl) (Nat.le_of_ble_eq_true rfl)) (fun v28 h27 hf => ?_)
        refine s_weak (lv' := [none, none, none, none]) trivial ?_
        exact k191 _ _ hf
      · refine s_weak (lv' := [none, none, none, none]) trivial ?_
        exact k176 hf
  refine s_ite hf (fun e hf => ?_) (fun n9 hf => ?_)
  · refine s_tsw1 (tgt := 192) C dX6_numberOf_11 e (by decide) (by decide) rfl (by decide) ?_
    refine s_aload_n C dX6_numberOf_192 rfl ?_
    refine s_jn hf (fun j216 e216 hf => ?_)
    have k216 : ∀ (x29 : Int32) (h30 : AH), j216 x29 h30 = some r → WW X h30 0 0 216 [none, none, none, none] [.int x29] := by
      intro x29 h30 hf
      rw [e216] at hf
      exact s_ireturn C E dX6_numberOf_216 hf (Nat.le_of_ble_eq_true rfl) (Nat.le_of_ble_eq_true rfl)
    refine s_jn hf (fun j215 e215 hf => ?_)
    have k215 : ∀ (h31 : AH), j215 h31 = some r → WW X h31 0 0 215 [none, none, none, none] [] := by
      intro h31 hf
      rw [e215] at hf
      refine s_iconst C dX6_numberOf_215 (v := (0 : Int32)) (by decide) ?_
      exact k216 _ _ hf
    refine s_ifnull (tgt := 215) C dX6_numberOf_193 (by decide) hf (fun hf => ?_) (fun hf => ?_)
    · refine s_weak (lv' := [none, none, none, none]) trivial ?_
      exact k215 _ hf
    · refine s_aload_n C dX6_numberOf_196 rfl ?_
      refine s_ifnull (tgt := 215) C dX6_numberOf_197 (by decide) hf (fun hf => ?_) (fun hf => ?_)
      · refine s_weak (lv' := [none, none, none, none]) trivial ?_
        exact k215 _ hf
      · refine s_aload_n C dX6_numberOf_200 rfl ?_
        refine s_aload_n C dX6_numberOf_201 rfl ?_
        refine s_getI C fl_X6_186 dX6_numberOf_202 hf (fun v32 hf => ?_)
        refine s_callV (rvf := fun x => some (.int x)) (st := []) (fr := 0) (lo := 0) (mc := 0) (ms := 0) C [1] wc_X1_isOnPaper wml_X6_207 wim_X1_isOnPaper wsl_1_X1_isOnPaper dX6_numberOf_205 (As := [.inl v32]) rfl hf (fun x h' hF => c_X1_isOnPaper _ _ _ _ _ (x, h') hF) rfl (Nat.le_of_ble_eq_true rfl) (room_ok hX (Nat.le_of_ble_eq_true rfl) (Nat.le_of_ble_eq_true rfl)) (cell_ok hX (Nat.le_of_ble_eq_true rfl) (Nat.le_of_ble_eq_true rfl)) (fun v34 h33 hf => ?_)
        refine s_if_eq (tgt := 215) C dX6_numberOf_208 (by decide) hf (fun hf => ?_) (fun hf => ?_)
        · refine s_weak (lv' := [none, none, none, none]) trivial ?_
          exact k215 _ hf
        · refine s_iconst C dX6_numberOf_211 (v := (1 : Int32)) (by decide) ?_
          refine s_goto (tgt := 216) C dX6_numberOf_212 (by decide) ?_
          refine s_weak (lv' := [none, none, none, none]) trivial ?_
          exact k216 _ _ hf
  refine s_ite hf (fun e hf => ?_) (fun n10 hf => ?_)
  · refine s_tsw1 (tgt := 217) C dX6_numberOf_11 e (by decide) (by decide) rfl (by decide) ?_
    refine s_aload_n C dX6_numberOf_217 rfl ?_
    refine s_jn hf (fun j241 e241 hf => ?_)
    have k241 : ∀ (x35 : Int32), j241 x35 = some r → WW X h 0 0 241 [none, none, none, none] [.int x35] := by
      intro x35 hf
      rw [e241] at hf
      exact s_ireturn C E dX6_numberOf_241 hf (Nat.le_of_ble_eq_true rfl) (Nat.le_of_ble_eq_true rfl)
    refine s_jn hf (fun j240 e240 hf => ?_)
    have k240 : j240  = some r → WW X h 0 0 240 [none, none, none, none] [] := by
      intro  hf
      rw [e240] at hf
      refine s_iconst C dX6_numberOf_240 (v := (0 : Int32)) (by decide) ?_
      exact k241 _ hf
    refine s_ifnull (tgt := 240) C dX6_numberOf_218 (by decide) hf (fun hf => ?_) (fun hf => ?_)
    · refine s_weak (lv' := [none, none, none, none]) trivial ?_
      exact k240 hf
    · refine s_aload_n C dX6_numberOf_221 rfl ?_
      refine s_ifnull (tgt := 240) C dX6_numberOf_222 (by decide) hf (fun hf => ?_) (fun hf => ?_)
      · refine s_weak (lv' := [none, none, none, none]) trivial ?_
        exact k240 hf
      · refine s_aload_n C dX6_numberOf_225 rfl ?_
        refine s_getI C fl_X6_211 dX6_numberOf_226 hf (fun v36 hf => ?_)
        refine s_aload_n C dX6_numberOf_229 rfl ?_
        refine s_getI C fl_X6_186 dX6_numberOf_230 hf (fun v37 hf => ?_)
        refine s_icmp_ne (tgt := 240) C dX6_numberOf_233 (by decide) hf (fun hf => ?_) (fun hf => ?_)
        · refine s_weak (lv' := [none, none, none, none]) trivial ?_
          exact k240 hf
        · refine s_iconst C dX6_numberOf_236 (v := (1 : Int32)) (by decide) ?_
          refine s_goto (tgt := 241) C dX6_numberOf_237 (by decide) ?_
          refine s_weak (lv' := [none, none, none, none]) trivial ?_
          exact k241 _ hf
  refine s_tswD (tgt := 242) C dX6_numberOf_11 (by have n0x := n32 (i := 0) n0 rfl; have n1x := n32 (i := 1) n1 rfl; have n2x := n32 (i := 2) n2 rfl; have n3x := n32 (i := 3) n3 rfl; have n4x := n32 (i := 4) n4 rfl; have n5x := n32 (i := 5) n5 rfl; have n6x := n32 (i := 6) n6 rfl; have n7x := n32 (i := 7) n7 rfl; have n8x := n32 (i := 8) n8 rfl; have n9x := n32 (i := 9) n9 rfl; have n10x := n32 (i := 10) n10 rfl; omega) (by decide) ?_
  refine s_iconst C dX6_numberOf_242 (v := (0 : Int32)) (by decide) ?_
  exact s_ireturn C E dX6_numberOf_243 hf (Nat.le_of_ble_eq_true rfl) (Nat.le_of_ble_eq_true rfl)
