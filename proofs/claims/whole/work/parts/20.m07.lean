/-- HillBoxes$Logs.tallyFinds(II)V -/
noncomputable def f_X4_tallyFinds (o : Option Nat) (a1 : Int32) (a2 : Int32) (h : AH) : Option (Unit × AH) :=
  fR h [4] o 3 fun v1 =>
  cl (f_J7_fill_53178 v1 (0 : Int32) h) fun _ h2 =>
  lp (fun _ _ => none) (fun (L10 : Int32 → AH → Option (Unit × AH)) (x3 : Int32) (h4 : AH) =>
    fI h4 [4] o 2 fun v5 =>
    if v5 ≤ x3 then
      some ((), h4)
    else
      fR h4 [4] o 6 fun v6 =>
      fR h4 [4] o 1 fun v7 =>
      aI h4 23 v7 x3 fun v8 =>
      jn (fun (x9 : Int32) (h10 : AH) =>
        bI h10 23 v6 x3 (x9 &&& 1) fun h11 =>
        fR h11 [4] o 6 fun v12 =>
        aI h11 23 v12 x3 fun v13 =>
        jn (fun (h14 : AH) =>
          L10 (x3 + 1) h14) fun j120 =>
        if v13 = 0 then
          j120 h11
        else
          rO h11 [4] o <| cl (f_X4_isTalliedAhead o x3 h11) fun v16 h15 =>
          if v16 = 0 then
            fR h15 [4] o 3 fun v17 =>
            fR h15 [4] o 0 fun v18 =>
            aI h15 20 v18 x3 fun v19 =>
            aI h15 20 v17 v19 fun v20 =>
            bI h15 20 v17 v19 (v20 + (1 : Int32)) fun h21 =>
            j120 h21
          else
            j120 h15) fun j87 =>
      jn (fun (h22 : AH) =>
        j87 (0 : Int32) h22) fun j86 =>
      if v8 = 0 then
        j86 h4
      else
        fR h4 [4] o 5 fun v23 =>
        aI h4 20 v23 x3 fun v24 =>
        nz (24 : Int32) <|
        if a1 < (v24 / (24 : Int32)) then
          j86 h4
        else
          fR h4 [4] o 8 fun v25 =>
          fR h4 [4] o 0 fun v26 =>
          aI h4 20 v26 x3 fun v27 =>
          fR h4 [4] o 4 fun v28 =>
          aI h4 20 v28 x3 fun v29 =>
          fR h4 [4] o 5 fun v30 =>
          aI h4 20 v30 x3 fun v31 =>
          rO h4 [6] v25 <| cl (f_X6_counts v25 v27 v29 v31 a2 h4) fun v33 h32 =>
          if v33 = 0 then
            j86 h32
          else
            rO h32 [4] o <| cl (f_X4_whyFalse o x3 h32) fun v35 h34 =>
            if v35 = 0 then
              j87 (1 : Int32) h34
            else
              j86 h34) lpN (0 : Int32) h2
set_option maxRecDepth 100000 in
set_option maxHeartbeats 4000000 in
theorem c_X4_tallyFinds (l : Launch) (D : DT) (o : Option Nat) (a1 : Int32) (a2 : Int32) (h : AH) (r : Unit × AH) (hf : f_X4_tallyFinds o a1 a2 h = some r) : CM l D yX4_tallyFinds cX4_tallyFinds 4 none 6 146 0 0 [.inr (.inr o), .inl a1, .inl a2] h none r.2 := by
  refine CM.of (by decide) (Nat.le_of_ble_eq_true rfl) (fun X hl C hD hX hnm E => ?_)
  subst hl
  subst hD
  have C : CX X RX4 cX4_tallyFinds 4 := C
  show WW X h 0 0 0 [some (rB (xD X).1 o), some (.int a1), some (.int a2), none] []
  unfold f_X4_tallyFinds at hf
  refine s_aload_n C dX4_tallyFinds_0 rfl ?_
  refine s_getR C fl_X4_19 dX4_tallyFinds_1 hf (fun v1 hf => ?_)
  refine s_iconst C dX4_tallyFinds_4 (v := (0 : Int32)) (by decide) ?_
  refine s_callS (rvf := fun _ => none) (st := []) (fr := 0) (lo := 0) (mc := 0) (ms := 0) C wc_J7_fill_53178 wml_X4_148 wst_J7_fill_53178 dX4_tallyFinds_5 (As := [.inr (.inr v1), .inl (0 : Int32)]) rfl hf (fun x h' hF => c_J7_fill_53178 _ _ _ _ _ (x, h') hF) rfl (Nat.le_of_ble_eq_true rfl) (room_ok hX (Nat.le_of_ble_eq_true rfl) (Nat.le_of_ble_eq_true rfl)) (cell_ok hX (Nat.le_of_ble_eq_true rfl) (Nat.le_of_ble_eq_true rfl)) (fun _ h2 hf => ?_)
  refine s_iconst C dX4_tallyFinds_8 (v := (0 : Int32)) (by decide) ?_
  refine s_istore_n C dX4_tallyFinds_9 (by decide) (nc_i rfl) (lv' := [some (rB (xD X).1 o), some (.int a1), some (.int a2), some (.int (0 : Int32))]) rfl ?_
  refine s_lp2 hf (fun G10 z10 q10 hf => ?_)
  have k10 : ∀ (n : Nat) (x3 : Int32) (h4 : AH), G10 n x3 h4 = some r → WW X h4 0 0 10 [some (rB (xD X).1 o), some (.int a1), some (.int a2), some (.int x3)] [] := by
    intro n
    induction n with
    | zero =>
      intro x3 h4 hf
      rw [z10] at hf
      cases hf
    | succ n ih10 =>
      intro x3 h4 hf
      have hf := (q10 n x3 h4).symm.trans hf
      refine s_iload_n C dX4_tallyFinds_10 rfl ?_
      refine s_aload_n C dX4_tallyFinds_11 rfl ?_
      refine s_getI C fl_X4_39 dX4_tallyFinds_12 hf (fun v5 hf => ?_)
      refine s_icmp_ge (tgt := 126) C dX4_tallyFinds_15 (by decide) hf (fun hf => ?_) (fun hf => ?_)
      · exact s_return C E dX4_tallyFinds_126 hf (Nat.le_of_ble_eq_true rfl) (Nat.le_of_ble_eq_true rfl)
      · refine s_aload_n C dX4_tallyFinds_18 rfl ?_
        refine s_getR C fl_X4_28 dX4_tallyFinds_19 hf (fun v6 hf => ?_)
        refine s_iload_n C dX4_tallyFinds_22 rfl ?_
        refine s_aload_n C dX4_tallyFinds_23 rfl ?_
        refine s_getR C fl_X4_15 dX4_tallyFinds_24 hf (fun v7 hf => ?_)
        refine s_iload_n C dX4_tallyFinds_27 rfl ?_
        refine s_zaload C dX4_tallyFinds_28 hf (fun v8 hf => ?_)
        refine s_jn hf (fun j87 e87 hf => ?_)
        have k87 : ∀ (x9 : Int32) (h10 : AH), j87 x9 h10 = some r → WW X h10 0 0 87 [some (rB (xD X).1 o), some (.int a1), some (.int a2), some (.int x3)] [.int x9, .int x3, rB (xD X).1 v6] := by
          intro x9 h10 hf
          rw [e87] at hf
          refine s_zastore C dX4_tallyFinds_87 hf (fun h11 hf => ?_)
          refine s_aload_n C dX4_tallyFinds_88 rfl ?_
          refine s_getR C fl_X4_28 dX4_tallyFinds_89 hf (fun v12 hf => ?_)
          refine s_iload_n C dX4_tallyFinds_92 rfl ?_
          refine s_zaload C dX4_tallyFinds_93 hf (fun v13 hf => ?_)
          refine s_jn hf (fun j120 e120 hf => ?_)
          have k120 : ∀ (h14 : AH), j120 h14 = some r → WW X h14 0 0 120 [some (rB (xD X).1 o), some (.int a1), some (.int a2), some (.int x3)] [] := by
            intro h14 hf
            rw [e120] at hf
            refine s_iinc C dX4_tallyFinds_120 (v := (x3 + 1)) rfl rfl (by decide) (nc_i rfl) (lv' := [some (rB (xD X).1 o), some (.int a1), some (.int a2), some (.int (x3 + 1))]) rfl ?_
            refine s_goto (tgt := 10) C dX4_tallyFinds_123 (by decide) ?_
            exact ih10 _ _ hf
          refine s_if_eq (tgt := 120) C dX4_tallyFinds_94 (by decide) hf (fun hf => ?_) (fun hf => ?_)
          · exact k120 _ hf
          · refine s_aload_n C dX4_tallyFinds_97 rfl ?_
            refine s_iload_n C dX4_tallyFinds_98 rfl ?_
            refine s_callV (rvf := fun x => some (.int x)) (st := []) (fr := 0) (lo := 0) (mc := 0) (ms := 0) C [4] wc_X4_isTalliedAhead wml_X4_154 wim_X4_isTalliedAhead wsl_4_X4_isTalliedAhead dX4_tallyFinds_99 (As := [.inl x3]) rfl hf (fun x h' hF => c_X4_isTalliedAhead _ _ _ _ _ (x, h') hF) rfl (Nat.le_of_ble_eq_true rfl) (room_ok hX (Nat.le_of_ble_eq_true rfl) (Nat.le_of_ble_eq_true rfl)) (cell_ok hX (Nat.le_of_ble_eq_true rfl) (Nat.le_of_ble_eq_true rfl)) (fun v16 h15 hf => ?_)
            refine s_if_ne (tgt := 120) C dX4_tallyFinds_102 (by decide) hf (fun hf => ?_) (fun hf => ?_)
            · exact k120 _ hf
            · refine s_aload_n C dX4_tallyFinds_105 rfl ?_
              refine s_getR C fl_X4_19 dX4_tallyFinds_106 hf (fun v17 hf => ?_)
              refine s_aload_n C dX4_tallyFinds_109 rfl ?_
              refine s_getR C fl_X4_9 dX4_tallyFinds_110 hf (fun v18 hf => ?_)
              refine s_iload_n C dX4_tallyFinds_113 rfl ?_
              refine s_iaload C dX4_tallyFinds_114 hf (fun v19 hf => ?_)
              refine s_dup2 C dX4_tallyFinds_115 c1_i c1_r ?_
              refine s_iaload C dX4_tallyFinds_116 hf (fun v20 hf => ?_)
              refine s_iconst C dX4_tallyFinds_117 (v := (1 : Int32)) (by decide) ?_
              refine s_iadd C dX4_tallyFinds_118 ?_
              refine s_iastore C dX4_tallyFinds_119 hf (fun h21 hf => ?_)
              exact k120 _ hf
        refine s_jn hf (fun j86 e86 hf => ?_)
        have k86 : ∀ (h22 : AH), j86 h22 = some r → WW X h22 0 0 86 [some (rB (xD X).1 o), some (.int a1), some (.int a2), some (.int x3)] [.int x3, rB (xD X).1 v6] := by
          intro h22 hf
          rw [e86] at hf
          refine s_iconst C dX4_tallyFinds_86 (v := (0 : Int32)) (by decide) ?_
          exact k87 _ _ hf
        refine s_if_eq (tgt := 86) C dX4_tallyFinds_29 (by decide) hf (fun hf => ?_) (fun hf => ?_)
        · exact k86 _ hf
        · refine s_aload_n C dX4_tallyFinds_32 rfl ?_
          refine s_getR C fl_X4_25 dX4_tallyFinds_33 hf (fun v23 hf => ?_)
          refine s_iload_n C dX4_tallyFinds_36 rfl ?_
          refine s_iaload C dX4_tallyFinds_37 hf (fun v24 hf => ?_)
          refine s_bipush C dX4_tallyFinds_38 (v := (24 : Int32)) (by decide) ?_
          refine s_idiv C dX4_tallyFinds_40 hf (fun hf => ?_)
          refine s_iload_n C dX4_tallyFinds_41 rfl ?_
          refine s_icmp_gt (tgt := 86) C dX4_tallyFinds_42 (by decide) hf (fun hf => ?_) (fun hf => ?_)
          · exact k86 _ hf
          · refine s_aload_n C dX4_tallyFinds_45 rfl ?_
            refine s_getR C fl_X4_35 dX4_tallyFinds_46 hf (fun v25 hf => ?_)
            refine s_aload_n C dX4_tallyFinds_49 rfl ?_
            refine s_getR C fl_X4_9 dX4_tallyFinds_50 hf (fun v26 hf => ?_)
            refine s_iload_n C dX4_tallyFinds_53 rfl ?_
            refine s_iaload C dX4_tallyFinds_54 hf (fun v27 hf => ?_)
            refine s_aload_n C dX4_tallyFinds_55 rfl ?_
            refine s_getR C fl_X4_22 dX4_tallyFinds_56 hf (fun v28 hf => ?_)
            refine s_iload_n C dX4_tallyFinds_59 rfl ?_
            refine s_iaload C dX4_tallyFinds_60 hf (fun v29 hf => ?_)
            refine s_aload_n C dX4_tallyFinds_61 rfl ?_
            refine s_getR C fl_X4_25 dX4_tallyFinds_62 hf (fun v30 hf => ?_)
            refine s_iload_n C dX4_tallyFinds_65 rfl ?_
            refine s_iaload C dX4_tallyFinds_66 hf (fun v31 hf => ?_)
            refine s_iload_n C dX4_tallyFinds_67 rfl ?_
            refine s_callV (rvf := fun x => some (.int x)) (st := [.int x3, rB (xD X).1 v6]) (fr := 5) (lo := 121) (mc := 0) (ms := 0) C [6] wc_X6_counts wml_X4_79 wim_X6_counts wsl_6_X6_counts dX4_tallyFinds_68 (As := [.inl v27, .inl v29, .inl v31, .inl a2]) rfl hf (fun x h' hF => c_X6_counts _ _ _ _ _ _ _ _ (x, h') hF) rfl (Nat.le_of_ble_eq_true rfl) (room_ok hX (Nat.le_of_ble_eq_true rfl) (Nat.le_of_ble_eq_true rfl)) (cell_ok hX (Nat.le_of_ble_eq_true rfl) (Nat.le_of_ble_eq_true rfl)) (fun v33 h32 hf => ?_)
            refine s_if_eq (tgt := 86) C dX4_tallyFinds_71 (by decide) hf (fun hf => ?_) (fun hf => ?_)
            · exact k86 _ hf
            · refine s_aload_n C dX4_tallyFinds_74 rfl ?_
              refine s_iload_n C dX4_tallyFinds_75 rfl ?_
              refine s_callV (rvf := fun x => some (.int x)) (st := [.int x3, rB (xD X).1 v6]) (fr := 4) (lo := 88) (mc := 0) (ms := 0) C [4] wc_X4_whyFalse wml_X4_127 wim_X4_whyFalse wsl_4_X4_whyFalse dX4_tallyFinds_76 (As := [.inl x3]) rfl hf (fun x h' hF => c_X4_whyFalse _ _ _ _ _ (x, h') hF) rfl (Nat.le_of_ble_eq_true rfl) (room_ok hX (Nat.le_of_ble_eq_true rfl) (Nat.le_of_ble_eq_true rfl)) (cell_ok hX (Nat.le_of_ble_eq_true rfl) (Nat.le_of_ble_eq_true rfl)) (fun v35 h34 hf => ?_)
              refine s_if_ne (tgt := 86) C dX4_tallyFinds_79 (by decide) hf (fun hf => ?_) (fun hf => ?_)
              · exact k86 _ hf
              · refine s_iconst C dX4_tallyFinds_82 (v := (1 : Int32)) (by decide) ?_
                refine s_goto (tgt := 87) C dX4_tallyFinds_83 (by decide) ?_
                exact k87 _ _ hf
  exact k10 lpN _ _ hf
/-- HillBoxes$Rules.isOf(II)Z -/
noncomputable def f_X6_isOf (o : Option Nat) (a1 : Int32) (a2 : Int32) (h : AH) : Option (Int32 × AH) :=
  jn (fun (x1 : Int32) =>
    rz x1 h) fun j27 =>
  jn (
    j27 (0 : Int32)) fun j26 =>
  if a1 < 0 then
    j26
  else
    fI h [6] o 1 fun v2 =>
    if v2 ≤ a1 then
      j26
    else
      fR h [6] o 4 fun v3 =>
      aI h 20 v3 a1 fun v4 =>
      if v4 = a2 then
        j27 (1 : Int32)
      else
        j26
set_option maxRecDepth 100000 in
set_option maxHeartbeats 4000000 in
theorem c_X6_isOf (l : Launch) (D : DT) (o : Option Nat) (a1 : Int32) (a2 : Int32) (h : AH) (r : Int32 × AH) (hf : f_X6_isOf o a1 a2 h = some r) : CM l D yX6_isOf cX6_isOf 3 (some .boolean) 0 0 0 0 [.inr (.inr o), .inl a1, .inl a2] h (some (.int r.1)) r.2 := by
  refine CM.of (by decide) (Nat.le_of_ble_eq_true rfl) (fun X hl C hD hX hnm E => ?_)
  subst hl
  subst hD
  have C : CX X RX6 cX6_isOf 3 := C
  show WW X h 0 0 0 [some (rB (xD X).1 o), some (.int a1), some (.int a2)] []
  unfold f_X6_isOf at hf
  refine s_iload_n C dX6_isOf_0 rfl ?_
  refine s_jn hf (fun j27 e27 hf => ?_)
  have k27 : ∀ (x1 : Int32), j27 x1 = some r → WW X h 0 0 27 [none, none, none] [.int x1] := by
    intro x1 hf
    rw [e27] at hf
    exact s_zreturn C E dX6_isOf_27 hf (Nat.le_of_ble_eq_true rfl) (Nat.le_of_ble_eq_true rfl)
  refine s_jn hf (fun j26 e26 hf => ?_)
  have k26 : j26  = some r → WW X h 0 0 26 [none, none, none] [] := by
    intro  hf
    rw [e26] at hf
    refine s_iconst C dX6_isOf_26 (v := (0 : Int32)) (by decide) ?_
    exact k27 _ hf
  refine s_if_lt (tgt := 26) C dX6_isOf_1 (by decide) hf (fun hf => ?_) (fun hf => ?_)
  · refine s_weak (lv' := [none, none, none]) trivial ?_
    exact k26 hf
  · refine s_iload_n C dX6_isOf_4 rfl ?_
    refine s_aload_n C dX6_isOf_5 rfl ?_
    refine s_getI C fl_X6_45 dX6_isOf_6 hf (fun v2 hf => ?_)
    refine s_icmp_ge (tgt := 26) C dX6_isOf_9 (by decide) hf (fun hf => ?_) (fun hf => ?_)
    · refine s_weak (lv' := [none, none, none]) trivial ?_
      exact k26 hf
    · refine s_aload_n C dX6_isOf_12 rfl ?_
      refine s_getR C fl_X6_22 dX6_isOf_13 hf (fun v3 hf => ?_)
      refine s_iload_n C dX6_isOf_16 rfl ?_
      refine s_iaload C dX6_isOf_17 hf (fun v4 hf => ?_)
      refine s_iload_n C dX6_isOf_18 rfl ?_
      refine s_icmp_ne (tgt := 26) C dX6_isOf_19 (by decide) hf (fun hf => ?_) (fun hf => ?_)
      · refine s_weak (lv' := [none, none, none]) trivial ?_
        exact k26 hf
      · refine s_iconst C dX6_isOf_22 (v := (1 : Int32)) (by decide) ?_
        refine s_goto (tgt := 27) C dX6_isOf_23 (by decide) ?_
        refine s_weak (lv' := [none, none, none]) trivial ?_
        exact k27 _ hf
/-- HillBoxes.rank(IIII)I -/
noncomputable def f_X11_rank (o : Option Nat) (a1 : Int32) (a2 : Int32) (a3 : Int32) (a4 : Int32) (h : AH) : Option (Int32 × AH) :=
  fR h [11] o 0 fun v1 =>
  rO h [3] v1 <| cl (f_X3_finderAt v1 a1 h) fun v3 h2 =>
  jn (fun (h4 : AH) =>
    some ((-1 : Int32), h4)) fun j29 =>
  if v3 = none then
    j29 h2
  else
    cl (f_X11_isDay a2 h2) fun v6 h5 =>
    if v6 = 0 then
      j29 h5
    else
      if a4 < 0 then
        j29 h5
      else
        if a4 ≤ (1 : Int32) then
          jn (fun (h7 : AH) =>
            fR h7 [11] o 2 fun v8 =>
            rO h7 [4] v8 <| cl (f_X4_tallyFinds v8 a2 a3 h7) fun _ h9 =>
            jn (fun (x10 : Int32) (h11 : AH) =>
              some (x10, h11)) fun j84 =>
            if a4 = 0 then
              fR h9 [11] o 2 fun v15 =>
              fR h9 [4] v15 3 fun v16 =>
              aI h9 20 v16 a1 fun v17 =>
              j84 v17 h9
            else
              fR h9 [11] o 2 fun v12 =>
              rO h9 [4] v12 <| cl (f_X4_placeOf v12 a1 h9) fun v14 h13 =>
              j84 v14 h13) fun j50 =>
          if a3 = (-1 : Int32) then
            j50 h5
          else
            fR h5 [11] o 1 fun v18 =>
            rO h5 [6] v18 <| cl (f_X6_isOf v18 a3 (2 : Int32) h5) fun v20 h19 =>
            if v20 = 0 then
              some ((-1 : Int32), h19)
            else
              j50 h19
        else
          j29 h5
set_option maxRecDepth 100000 in
set_option maxHeartbeats 4000000 in
theorem c_X11_rank (l : Launch) (D : DT) (o : Option Nat) (a1 : Int32) (a2 : Int32) (a3 : Int32) (a4 : Int32) (h : AH) (r : Int32 × AH) (hf : f_X11_rank o a1 a2 a3 a4 h = some r) : CM l D yX11_rank cX11_rank 5 (some .int) 7 169 0 0 [.inr (.inr o), .inl a1, .inl a2, .inl a3, .inl a4] h (some (.int r.1)) r.2 := by
  refine CM.of (by decide) (Nat.le_of_ble_eq_true rfl) (fun X hl C hD hX hnm E => ?_)
  subst hl
  subst hD
  have C : CX X RX11 cX11_rank 5 := C
  show WW X h 0 0 0 [some (rB (xD X).1 o), some (.int a1), some (.int a2), some (.int a3), some (.int a4)] []
  unfold f_X11_rank at hf
  refine s_aload_n C dX11_rank_0 rfl ?_
  refine s_getR C fl_X11_10 dX11_rank_1 hf (fun v1 hf => ?_)
  refine s_iload_n C dX11_rank_4 rfl ?_
  refine s_callV (rvf := fun x => some (rB (xD X).1 x)) (st := []) (fr := 0) (lo := 0) (mc := 0) (ms := 0) C [3] wc_X3_finderAt wml_X11_90 wim_X3_finderAt wsl_3_X3_finderAt dX11_rank_5 (As := [.inl a1]) rfl hf (fun x h' hF => c_X3_finderAt _ _ _ _ _ (x, h') hF) rfl (Nat.le_of_ble_eq_true rfl) (room_ok hX (Nat.le_of_ble_eq_true rfl) (Nat.le_of_ble_eq_true rfl)) (cell_ok hX (Nat.le_of_ble_eq_true rfl) (Nat.le_of_ble_eq_true rfl)) (fun v3 h2 hf => ?_)
  refine s_jn hf (fun j29 e29 hf => ?_)
  have k29 : ∀ (h4 : AH), j29 h4 = some r → WW X h4 0 0 29 [none, none, none, none, none] [] := by
    intro h4 hf
    rw [e29] at hf
    refine s_iconst C dX11_rank_29 (v := (-1 : Int32)) (by decide) ?_
    exact s_ireturn C E dX11_rank_30 hf (Nat.le_of_ble_eq_true rfl) (Nat.le_of_ble_eq_true rfl)
  refine s_ifnull (tgt := 29) C dX11_rank_8 (by decide) hf (fun hf => ?_) (fun hf => ?_)
  · refine s_weak (lv' := [none, none, none, none, none]) trivial ?_
    exact k29 _ hf
  · refine s_iload_n C dX11_rank_11 rfl ?_
    refine s_callS (rvf := fun x => some (.int x)) (st := []) (fr := 0) (lo := 0) (mc := 0) (ms := 0) C wc_X11_isDay wml_X11_173 wst_X11_isDay dX11_rank_12 (As := [.inl a2]) rfl hf (fun x h' hF => c_X11_isDay _ _ _ _ (x, h') hF) rfl (Nat.le_of_ble_eq_true rfl) (room_ok hX (Nat.le_of_ble_eq_true rfl) (Nat.le_of_ble_eq_true rfl)) (cell_ok hX (Nat.le_of_ble_eq_true rfl) (Nat.le_of_ble_eq_true rfl)) (fun v6 h5 hf => ?_)
    refine s_if_eq (tgt := 29) C dX11_rank_15 (by decide) hf (fun hf => ?_) (fun hf => ?_)
    · refine s_weak (lv' := [none, none, none, none, none]) trivial ?_
      exact k29 _ hf
    · refine s_iload C dX11_rank_18 rfl ?_
      refine s_if_lt (tgt := 29) C dX11_rank_20 (by decide) hf (fun hf => ?_) (fun hf => ?_)
      · refine s_weak (lv' := [none, none, none, none, none]) trivial ?_
        exact k29 _ hf
      · refine s_iload C dX11_rank_23 rfl ?_
        refine s_iconst C dX11_rank_25 (v := (1 : Int32)) (by decide) ?_
        refine s_icmp_le (tgt := 31) C dX11_rank_26 (by decide) hf (fun hf => ?_) (fun hf => ?_)
        · refine s_iload_n C dX11_rank_31 rfl ?_
          refine s_iconst C dX11_rank_32 (v := (-1 : Int32)) (by decide) ?_
          refine s_jn hf (fun j50 e50 hf => ?_)
          have k50 : ∀ (h7 : AH), j50 h7 = some r → WW X h7 0 0 50 [some (rB (xD X).1 o), some (.int a1), some (.int a2), some (.int a3), some (.int a4)] [] := by
            intro h7 hf
            rw [e50] at hf
            refine s_aload_n C dX11_rank_50 rfl ?_
            refine s_getR C fl_X11_30 dX11_rank_51 hf (fun v8 hf => ?_)
            refine s_iload_n C dX11_rank_54 rfl ?_
            refine s_iload_n C dX11_rank_55 rfl ?_
            refine s_callV (rvf := fun _ => none) (st := []) (fr := 6) (lo := 146) (mc := 0) (ms := 0) C [4] wc_X4_tallyFinds wml_X11_425 wim_X4_tallyFinds wsl_4_X4_tallyFinds dX11_rank_56 (As := [.inl a2, .inl a3]) rfl hf (fun x h' hF => c_X4_tallyFinds _ _ _ _ _ _ (x, h') hF) rfl (Nat.le_of_ble_eq_true rfl) (room_ok hX (Nat.le_of_ble_eq_true rfl) (Nat.le_of_ble_eq_true rfl)) (cell_ok hX (Nat.le_of_ble_eq_true rfl) (Nat.le_of_ble_eq_true rfl)) (fun _ h9 hf => ?_)
            refine s_iload C dX11_rank_59 rfl ?_
            refine s_jn hf (fun j84 e84 hf => ?_)
            have k84 : ∀ (x10 : Int32) (h11 : AH), j84 x10 h11 = some r → WW X h11 0 0 84 [none, none, none, none, none] [.int x10] := by
              intro x10 h11 hf
              rw [e84] at hf
              exact s_ireturn C E dX11_rank_84 hf (Nat.le_of_ble_eq_true rfl) (Nat.le_of_ble_eq_true rfl)
            refine s_if_ne (tgt := 76) C dX11_rank_61 (by decide) hf (fun hf => ?_) (fun hf => ?_)
            · refine s_aload_n C dX11_rank_76 rfl ?_
              refine s_getR C fl_X11_30 dX11_rank_77 hf (fun v12 hf => ?_)
              refine s_iload_n C dX11_rank_80 rfl ?_
              refine s_callV (rvf := fun x => some (.int x)) (st := []) (fr := 0) (lo := 0) (mc := 0) (ms := 0) C [4] wc_X4_placeOf wml_X11_431 wim_X4_placeOf wsl_4_X4_placeOf dX11_rank_81 (As := [.inl a1]) rfl hf (fun x h' hF => c_X4_placeOf _ _ _ _ _ (x, h') hF) rfl (Nat.le_of_ble_eq_true rfl) (room_ok hX (Nat.le_of_ble_eq_true rfl) (Nat.le_of_ble_eq_true rfl)) (cell_ok hX (Nat.le_of_ble_eq_true rfl) (Nat.le_of_ble_eq_true rfl)) (fun v14 h13 hf => ?_)
              refine s_weak (lv' := [none, none, none, none, none]) trivial ?_
              exact k84 _ _ hf
            · refine s_aload_n C dX11_rank_64 rfl ?_
              refine s_getR C fl_X11_30 dX11_rank_65 hf (fun v15 hf => ?_)
              refine s_getR C fl_X11_428 dX11_rank_68 hf (fun v16 hf => ?_)
              refine s_iload_n C dX11_rank_71 rfl ?_
              refine s_iaload C dX11_rank_72 hf (fun v17 hf => ?_)
              refine s_goto (tgt := 84) C dX11_rank_73 (by decide) ?_
              refine s_weak (lv' := [none, none, none, none, none]) trivial ?_
              exact k84 _ _ hf
          refine s_icmp_eq (tgt := 50) C dX11_rank_33 (by decide) hf (fun hf => ?_) (fun hf => ?_)
          · exact k50 _ hf
          · refine s_aload_n C dX11_rank_36 rfl ?_
            refine s_getR C fl_X11_21 dX11_rank_37 hf (fun v18 hf => ?_)
            refine s_iload_n C dX11_rank_40 rfl ?_
            refine s_iconst C dX11_rank_41 (v := (2 : Int32)) (by decide) ?_
            refine s_callV (rvf := fun x => some (.int x)) (st := []) (fr := 0) (lo := 0) (mc := 0) (ms := 0) C [6] wc_X6_isOf wml_X11_422 wim_X6_isOf wsl_6_X6_isOf dX11_rank_42 (As := [.inl a3, .inl (2 : Int32)]) rfl hf (fun x h' hF => c_X6_isOf _ _ _ _ _ _ (x, h') hF) rfl (Nat.le_of_ble_eq_true rfl) (room_ok hX (Nat.le_of_ble_eq_true rfl) (Nat.le_of_ble_eq_true rfl)) (cell_ok hX (Nat.le_of_ble_eq_true rfl) (Nat.le_of_ble_eq_true rfl)) (fun v20 h19 hf => ?_)
            refine s_if_ne (tgt := 50) C dX11_rank_45 (by decide) hf (fun hf => ?_) (fun hf => ?_)
            · exact k50 _ hf
            · refine s_iconst C dX11_rank_48 (v := (-1 : Int32)) (by decide) ?_
              exact s_ireturn C E dX11_rank_49 hf (Nat.le_of_ble_eq_true rfl) (Nat.le_of_ble_eq_true rfl)
        · refine s_weak (lv' := [none, none, none, none, none]) trivial ?_
          exact k29 _ hf
/-- HillBoxes$Riddle.isTelling(IIII)Z -/
noncomputable def f_X5_isTelling (a0 : Int32) (a1 : Int32) (a2 : Int32) (a3 : Int32) (h : AH) : Option (Int32 × AH) :=
  jn (
    rz (0 : Int32) h) fun j28 =>
  if a0 < 0 then
    j28
  else
    if (5 : Int32) < a0 then
      j28
    else
      if a1 < 0 then
        j28
      else
        jn (fun (x1 : Int32) =>
          if a1 ≤ x1 then
            jn (
              tbI tbLN a0 fun v2 =>
              jn (fun (x3 : Int32) =>
                rz x3 h) fun j70 =>
              jn (
                j70 (0 : Int32)) fun j69 =>
              if a3 < v2 then
                j69
              else
                tbI tbGN a0 fun v4 =>
                if v4 < a3 then
                  j69
                else
                  j70 (1 : Int32)) fun j47 =>
            if (2 : Int32) < a0 then
              j47
            else
              jn (
                rz (0 : Int32) h) fun j45 =>
              if a2 < 0 then
                j45
              else
                if a2 < (6 : Int32) then
                  j47
                else
                  j45
          else
            j28) fun j25 =>
        if a0 < (4 : Int32) then
          j25 (5 : Int32)
        else
          j25 (6 : Int32)
set_option maxRecDepth 100000 in
set_option maxHeartbeats 4000000 in
theorem c_X5_isTelling (l : Launch) (D : DT) (a0 : Int32) (a1 : Int32) (a2 : Int32) (a3 : Int32) (h : AH) (r : Int32 × AH) (hf : f_X5_isTelling a0 a1 a2 a3 h = some r) : CM l D yX5_isTelling cX5_isTelling 4 (some .boolean) 0 0 0 0 [.inl a0, .inl a1, .inl a2, .inl a3] h (some (.int r.1)) r.2 := by
  refine CM.of (by decide) (Nat.le_of_ble_eq_true rfl) (fun X hl C hD hX hnm E => ?_)
  subst hl
  subst hD
  have C : CX X RX5 cX5_isTelling 4 := C
  show WW X h 0 0 0 [some (.int a0), some (.int a1), some (.int a2), some (.int a3)] []
  unfold f_X5_isTelling at hf
  refine s_iload_n C dX5_isTelling_0 rfl ?_
  refine s_jn hf (fun j28 e28 hf => ?_)
  have k28 : j28  = some r → WW X h 0 0 28 [none, none, none, none] [] := by
    intro  hf
    rw [e28] at hf
    refine s_iconst C dX5_isTelling_28 (v := (0 : Int32)) (by decide) ?_
    exact s_zreturn C E dX5_isTelling_29 hf (Nat.le_of_ble_eq_true rfl) (Nat.le_of_ble_eq_true rfl)
  refine s_if_lt (tgt := 28) C dX5_isTelling_1 (by decide) hf (fun hf => ?_) (fun hf => ?_)
  · refine s_weak (lv' := [none, none, none, none]) trivial ?_
    exact k28 hf
  · refine s_iload_n C dX5_isTelling_4 rfl ?_
    refine s_iconst C dX5_isTelling_5 (v := (5 : Int32)) (by decide) ?_
    refine s_icmp_gt (tgt := 28) C dX5_isTelling_6 (by decide) hf (fun hf => ?_) (fun hf => ?_)
    · refine s_weak (lv' := [none, none, none, none]) trivial ?_
      exact k28 hf
    · refine s_iload_n C dX5_isTelling_9 rfl ?_
      refine s_if_lt (tgt := 28) C dX5_isTelling_10 (by decide) hf (fun hf => ?_) (fun hf => ?_)
      · refine s_weak (lv' := [none, none, none, none]) trivial ?_
        exact k28 hf
      · refine s_iload_n C dX5_isTelling_13 rfl ?_
        refine s_iload_n C dX5_isTelling_14 rfl ?_
        refine s_iconst C dX5_isTelling_15 (v := (4 : Int32)) (by decide) ?_
        refine s_jn hf (fun j25 e25 hf => ?_)
        have k25 : ∀ (x1 : Int32), j25 x1 = some r → WW X h 0 0 25 [some (.int a0), none, some (.int a2), some (.int a3)] [.int x1, .int a1] := by
          intro x1 hf
          rw [e25] at hf
          refine s_icmp_le (tgt := 30) C dX5_isTelling_25 (by decide) hf (fun hf => ?_) (fun hf => ?_)
          · refine s_iload_n C dX5_isTelling_30 rfl ?_
            refine s_iconst C dX5_isTelling_31 (v := (2 : Int32)) (by decide) ?_
            refine s_jn hf (fun j47 e47 hf => ?_)
            have k47 : j47  = some r → WW X h 0 0 47 [some (.int a0), none, none, some (.int a3)] [] := by
              intro  hf
              rw [e47] at hf
              refine s_iload_n C dX5_isTelling_47 rfl ?_
              refine s_getsI C C.2.2.2.2.2.2.2.2.2.2.2.2.1 wfl_X5_77 dX5_isTelling_48 (fun t48 t48h => ?_)
              refine s_iload_n C dX5_isTelling_51 rfl ?_
              refine s_tbI C t48h dX5_isTelling_52 hf (fun v2 hf => ?_)
              refine s_jn hf (fun j70 e70 hf => ?_)
              have k70 : ∀ (x3 : Int32), j70 x3 = some r → WW X h 0 0 70 [none, none, none, none] [.int x3] := by
                intro x3 hf
                rw [e70] at hf
                exact s_zreturn C E dX5_isTelling_70 hf (Nat.le_of_ble_eq_true rfl) (Nat.le_of_ble_eq_true rfl)
              refine s_jn hf (fun j69 e69 hf => ?_)
              have k69 : j69  = some r → WW X h 0 0 69 [none, none, none, none] [] := by
                intro  hf
                rw [e69] at hf
                refine s_iconst C dX5_isTelling_69 (v := (0 : Int32)) (by decide) ?_
                exact k70 _ hf
              refine s_icmp_lt (tgt := 69) C dX5_isTelling_53 (by decide) hf (fun hf => ?_) (fun hf => ?_)
              · refine s_weak (lv' := [none, none, none, none]) trivial ?_
                exact k69 hf
              · refine s_iload_n C dX5_isTelling_56 rfl ?_
                refine s_getsI C C.2.2.2.2.2.2.2.2.2.2.2.2.2.1 wfl_X5_80 dX5_isTelling_57 (fun t57 t57h => ?_)
                refine s_iload_n C dX5_isTelling_60 rfl ?_
                refine s_tbI C t57h dX5_isTelling_61 hf (fun v4 hf => ?_)
                refine s_icmp_gt (tgt := 69) C dX5_isTelling_62 (by decide) hf (fun hf => ?_) (fun hf => ?_)
                · refine s_weak (lv' := [none, none, none, none]) trivial ?_
                  exact k69 hf
                · refine s_iconst C dX5_isTelling_65 (v := (1 : Int32)) (by decide) ?_
                  refine s_goto (tgt := 70) C dX5_isTelling_66 (by decide) ?_
                  refine s_weak (lv' := [none, none, none, none]) trivial ?_
                  exact k70 _ hf
            refine s_icmp_gt (tgt := 47) C dX5_isTelling_32 (by decide) hf (fun hf => ?_) (fun hf => ?_)
            · refine s_weak (lv' := [some (.int a0), none, none, some (.int a3)]) ⟨rfl, ⟨rfl, trivial⟩⟩ ?_
              exact k47 hf
            · refine s_iload_n C dX5_isTelling_35 rfl ?_
              refine s_jn hf (fun j45 e45 hf => ?_)
              have k45 : j45  = some r → WW X h 0 0 45 [none, none, none, none] [] := by
                intro  hf
                rw [e45] at hf
                refine s_iconst C dX5_isTelling_45 (v := (0 : Int32)) (by decide) ?_
                exact s_zreturn C E dX5_isTelling_46 hf (Nat.le_of_ble_eq_true rfl) (Nat.le_of_ble_eq_true rfl)
              refine s_if_lt (tgt := 45) C dX5_isTelling_36 (by decide) hf (fun hf => ?_) (fun hf => ?_)
              · refine s_weak (lv' := [none, none, none, none]) trivial ?_
                exact k45 hf
              · refine s_iload_n C dX5_isTelling_39 rfl ?_
                refine s_bipush C dX5_isTelling_40 (v := (6 : Int32)) (by decide) ?_
                refine s_icmp_lt (tgt := 47) C dX5_isTelling_42 (by decide) hf (fun hf => ?_) (fun hf => ?_)
                · refine s_weak (lv' := [some (.int a0), none, none, some (.int a3)]) ⟨rfl, ⟨rfl, trivial⟩⟩ ?_
                  exact k47 hf
                · refine s_weak (lv' := [none, none, none, none]) trivial ?_
                  exact k45 hf
          · refine s_weak (lv' := [none, none, none, none]) trivial ?_
            exact k28 hf
        refine s_icmp_lt (tgt := 24) C dX5_isTelling_16 (by decide) hf (fun hf => ?_) (fun hf => ?_)
        · refine s_iconst C dX5_isTelling_24 (v := (5 : Int32)) (by decide) ?_
          refine s_weak (lv' := [some (.int a0), none, some (.int a2), some (.int a3)]) ⟨rfl, ⟨rfl, ⟨rfl, trivial⟩⟩⟩ ?_
          exact k25 _ hf
        · refine s_bipush C dX5_isTelling_19 (v := (6 : Int32)) (by decide) ?_
          refine s_goto (tgt := 25) C dX5_isTelling_21 (by decide) ?_
          refine s_weak (lv' := [some (.int a0), none, some (.int a2), some (.int a3)]) ⟨rfl, ⟨rfl, ⟨rfl, trivial⟩⟩⟩ ?_
          exact k25 _ hf
/-- HillBoxes$Riddle.takeFive(LHillBoxes$Shelf;J)Z -/
noncomputable def f_X5_takeFive (o : Option Nat) (a1 : Option Nat) (a2 : Int64) (h : AH) : Option (Int32 × AH) :=
  rO h [7] a1 <| cl (f_X7_hasPlaces a1 a2 (5 : Int32) h) fun v2 h1 =>
  if v2 = 0 then
    rz (0 : Int32) h1
  else
    rO h1 [7] a1 <| cl (f_X7_elementOr a1 a2 (-1 : Int64) h1) fun v4 h3 =>
    rO h3 [7] a1 <| cl (f_X7_elementOr a1 (a2 + (1 : Int64)) (-1 : Int64) h3) fun v6 h5 =>
    rO h5 [7] a1 <| cl (f_X7_elementOr a1 (a2 + (2 : Int64)) (-1 : Int64) h5) fun v8 h7 =>
    rO h7 [7] a1 <| cl (f_X7_elementOr a1 (a2 + (3 : Int64)) (-1 : Int64) h7) fun v10 h9 =>
    rO h9 [7] a1 <| cl (f_X7_elementOr a1 (a2 + (4 : Int64)) (-1 : Int64) h9) fun v12 h11 =>
    jn (fun (h13 : AH) =>
      rz (0 : Int32) h13) fun j96 =>
    if (lg_cmp v12 (0 : Int64)) = 0 then
      cl (f_X5_isTelling v4.toInt32 v6.toInt32 v8.toInt32 v10.toInt32 h11) fun v15 h14 =>
      if v15 = 0 then
        j96 h14
      else
        fR h14 [5] o 3 fun v16 =>
        fI h14 [5] o 8 fun v17 =>
        bI h14 20 v16 v17 v4.toInt32 fun h18 =>
        fR h18 [5] o 4 fun v19 =>
        fI h18 [5] o 8 fun v20 =>
        bI h18 20 v19 v20 v6.toInt32 fun h21 =>
        fR h21 [5] o 5 fun v22 =>
        fI h21 [5] o 8 fun v23 =>
        bI h21 20 v22 v23 v8.toInt32 fun h24 =>
        fR h24 [5] o 6 fun v25 =>
        fI h24 [5] o 8 fun v26 =>
        bI h24 20 v25 v26 v10.toInt32 fun h27 =>
        fR h27 [5] o 7 fun v28 =>
        fI h27 [5] o 8 fun v29 =>
        jn (fun (x30 : Int32) =>
          bI h27 20 v28 v29 x30 fun h31 =>
          fI h31 [5] o 9 fun v32 =>
          jn (fun (x33 : Int32) =>
            pI h31 [5] o 9 (v32 ||| x33) fun h34 =>
            fI h34 [5] o 9 fun v35 =>
            jn (fun (x36 : Int32) =>
              pI h34 [5] o 9 (v35 ||| x36) fun h37 =>
              jn (fun (x38 : Int32) =>
                pI h37 [5] o 10 x38 fun h39 =>
                jn (fun (x40 : Int32) =>
                  pI h39 [5] o 11 x40 fun h41 =>
                  fI h41 [5] o 8 fun v42 =>
                  pI h41 [5] o 8 (v42 + (1 : Int32)) fun h43 =>
                  rz (1 : Int32) h43) fun j255 =>
                if v4.toInt32 = (5 : Int32) then
                  fI h39 [5] o 8 fun v45 =>
                  j255 v45
                else
                  fI h39 [5] o 11 fun v44 =>
                  j255 v44) fun j234 =>
              if v4.toInt32 = (4 : Int32) then
                fI h37 [5] o 8 fun v47 =>
                j234 v47
              else
                fI h37 [5] o 10 fun v46 =>
                j234 v46) fun j212 =>
            if v4.toInt32 ≤ (2 : Int32) then
              j212 ((1 : Int32) <<< (v8.toInt32 &&& 31))
            else
              j212 (0 : Int32)) fun j189 =>
          if v6.toInt32 = (6 : Int32) then
            j189 (0 : Int32)
          else
            j189 ((1 : Int32) <<< (v6.toInt32 &&& 31))) fun j168 =>
        if v4.toInt32 ≤ (2 : Int32) then
          j168 (if v6.toInt32 < v8.toInt32 then v8.toInt32 else v6.toInt32)
        else
          j168 v6.toInt32
    else
      j96 h11
set_option maxRecDepth 100000 in
set_option maxHeartbeats 4000000 in
theorem c_X5_takeFive (l : Launch) (D : DT) (o : Option Nat) (a1 : Option Nat) (a2 : Int64) (h : AH) (r : Int32 × AH) (hf : f_X5_takeFive o a1 a2 h = some r) : CM l D yX5_takeFive cX5_takeFive 8 (some .boolean) 2 47 0 0 [.inr (.inr o), .inr (.inr a1), .inr (.inl a2)] h (some (.int r.1)) r.2 := by
  refine CM.of (by decide) (Nat.le_of_ble_eq_true rfl) (fun X hl C hD hX hnm E => ?_)
  subst hl
  subst hD
  have C : CX X RX5 cX5_takeFive 8 := C
  show WW X h 0 0 0 [some (rB (xD X).1 o), some (rB (xD X).1 a1), some (.long a2), none, none, none, none, none] []
  unfold f_X5_takeFive at hf
  refine s_aload_n C dX5_takeFive_0 rfl ?_
  refine s_lload_n C dX5_takeFive_1 rfl ?_
  refine s_iconst C dX5_takeFive_2 (v := (5 : Int32)) (by decide) ?_
  refine s_callV (rvf := fun x => some (.int x)) (st := []) (fr := 0) (lo := 0) (mc := 0) (ms := 0) C [7] wc_X7_hasPlaces wml_X5_49 wim_X7_hasPlaces wsl_7_X7_hasPlaces dX5_takeFive_3 (As := [.inr (.inl a2), .inl (5 : Int32)]) rfl hf (fun x h' hF => c_X7_hasPlaces _ _ _ _ _ _ (x, h') hF) rfl (Nat.le_of_ble_eq_true rfl) (room_ok hX (Nat.le_of_ble_eq_true rfl) (Nat.le_of_ble_eq_true rfl)) (cell_ok hX (Nat.le_of_ble_eq_true rfl) (Nat.le_of_ble_eq_true rfl)) (fun v2 h1 hf => ?_)
  refine s_if_ne (tgt := 11) C dX5_takeFive_6 (by decide) hf (fun hf => ?_) (fun hf => ?_)
  · refine s_aload_n C dX5_takeFive_11 rfl ?_
    refine s_lload_n C dX5_takeFive_12 rfl ?_
    refine s_ldc2 C dX5_takeFive_13 wk_X5_55 ?_
    refine s_callV (rvf := fun x => some (.long x)) (st := []) (fr := 1) (lo := 23) (mc := 0) (ms := 0) C [7] wc_X7_elementOr wml_X5_57 wim_X7_elementOr wsl_7_X7_elementOr dX5_takeFive_16 (As := [.inr (.inl a2), .inr (.inl (-1 : Int64))]) rfl hf (fun x h' hF => c_X7_elementOr _ _ _ _ _ _ (x, h') hF) rfl (Nat.le_of_ble_eq_true rfl) (room_ok hX (Nat.le_of_ble_eq_true rfl) (Nat.le_of_ble_eq_true rfl)) (cell_ok hX (Nat.le_of_ble_eq_true rfl) (Nat.le_of_ble_eq_true rfl)) (fun v4 h3 hf => ?_)
    refine s_l2i C dX5_takeFive_19 ?_
    refine s_istore C dX5_takeFive_20 (by decide) (nc_n rfl) (lv' := [some (rB (xD X).1 o), some (rB (xD X).1 a1), some (.long a2), none, some (.int v4.toInt32), none, none, none]) rfl ?_
    refine s_aload_n C dX5_takeFive_22 rfl ?_
    refine s_lload_n C dX5_takeFive_23 rfl ?_
    refine s_lconst C dX5_takeFive_24 (v := (1 : Int64)) (by decide) ?_
    refine s_ladd C dX5_takeFive_25 ?_
    refine s_ldc2 C dX5_takeFive_26 wk_X5_55 ?_
    refine s_callV (rvf := fun x => some (.long x)) (st := []) (fr := 1) (lo := 23) (mc := 0) (ms := 0) C [7] wc_X7_elementOr wml_X5_57 wim_X7_elementOr wsl_7_X7_elementOr dX5_takeFive_29 (As := [.inr (.inl (a2 + (1 : Int64))), .inr (.inl (-1 : Int64))]) rfl hf (fun x h' hF => c_X7_elementOr _ _ _ _ _ _ (x, h') hF) rfl (Nat.le_of_ble_eq_true rfl) (room_ok hX (Nat.le_of_ble_eq_true rfl) (Nat.le_of_ble_eq_true rfl)) (cell_ok hX (Nat.le_of_ble_eq_true rfl) (Nat.le_of_ble_eq_true rfl)) (fun v6 h5 hf => ?_)
    refine s_l2i C dX5_takeFive_32 ?_
    refine s_istore C dX5_takeFive_33 (by decide) (nc_i rfl) (lv' := [some (rB (xD X).1 o), some (rB (xD X).1 a1), some (.long a2), none, some (.int v4.toInt32), some (.int v6.toInt32), none, none]) rfl ?_
    refine s_aload_n C dX5_takeFive_35 rfl ?_
    refine s_lload_n C dX5_takeFive_36 rfl ?_
    refine s_ldc2 C dX5_takeFive_37 wk_X5_61 ?_
    refine s_ladd C dX5_takeFive_40 ?_
    refine s_ldc2 C dX5_takeFive_41 wk_X5_55 ?_
    refine s_callV (rvf := fun x => some (.long x)) (st := []) (fr := 1) (lo := 23) (mc := 0) (ms := 0) C [7] wc_X7_elementOr wml_X5_57 wim_X7_elementOr wsl_7_X7_elementOr dX5_takeFive_44 (As := [.inr (.inl (a2 + (2 : Int64))), .inr (.inl (-1 : Int64))]) rfl hf (fun x h' hF => c_X7_elementOr _ _ _ _ _ _ (x, h') hF) rfl (Nat.le_of_ble_eq_true rfl) (room_ok hX (Nat.le_of_ble_eq_true rfl) (Nat.le_of_ble_eq_true rfl)) (cell_ok hX (Nat.le_of_ble_eq_true rfl) (Nat.le_of_ble_eq_true rfl)) (fun v8 h7 hf => ?_)
    refine s_l2i C dX5_takeFive_47 ?_
    refine s_istore C dX5_takeFive_48 (by decide) (nc_i rfl) (lv' := [some (rB (xD X).1 o), some (rB (xD X).1 a1), some (.long a2), none, some (.int v4.toInt32), some (.int v6.toInt32), some (.int v8.toInt32), none]) rfl ?_
    refine s_aload_n C dX5_takeFive_50 rfl ?_
    refine s_lload_n C dX5_takeFive_51 rfl ?_
    refine s_ldc2 C dX5_takeFive_52 wk_X5_63 ?_
    refine s_ladd C dX5_takeFive_55 ?_
    refine s_ldc2 C dX5_takeFive_56 wk_X5_55 ?_
    refine s_callV (rvf := fun x => some (.long x)) (st := []) (fr := 1) (lo := 23) (mc := 0) (ms := 0) C [7] wc_X7_elementOr wml_X5_57 wim_X7_elementOr wsl_7_X7_elementOr dX5_takeFive_59 (As := [.inr (.inl (a2 + (3 : Int64))), .inr (.inl (-1 : Int64))]) rfl hf (fun x h' hF => c_X7_elementOr _ _ _ _ _ _ (x, h') hF) rfl (Nat.le_of_ble_eq_true rfl) (room_ok hX (Nat.le_of_ble_eq_true rfl) (Nat.le_of_ble_eq_true rfl)) (cell_ok hX (Nat.le_of_ble_eq_true rfl) (Nat.le_of_ble_eq_true rfl)) (fun v10 h9 hf => ?_)
    refine s_l2i C dX5_takeFive_62 ?_
    refine s_istore C dX5_takeFive_63 (by decide) (nc_i rfl) (lv' := [some (rB (xD X).1 o), some (rB (xD X).1 a1), some (.long a2), none, some (.int v4.toInt32), some (.int v6.toInt32), some (.int v8.toInt32), some (.int v10.toInt32)]) rfl ?_
    refine s_aload_n C dX5_takeFive_65 rfl ?_
    refine s_lload_n C dX5_takeFive_66 rfl ?_
    refine s_ldc2 C dX5_takeFive_67 wk_X5_65 ?_
    refine s_ladd C dX5_takeFive_70 ?_
    refine s_ldc2 C dX5_takeFive_71 wk_X5_55 ?_
    refine s_callV (rvf := fun x => some (.long x)) (st := []) (fr := 1) (lo := 23) (mc := 0) (ms := 0) C [7] wc_X7_elementOr wml_X5_57 wim_X7_elementOr wsl_7_X7_elementOr dX5_takeFive_74 (As := [.inr (.inl (a2 + (4 : Int64))), .inr (.inl (-1 : Int64))]) rfl hf (fun x h' hF => c_X7_elementOr _ _ _ _ _ _ (x, h') hF) rfl (Nat.le_of_ble_eq_true rfl) (room_ok hX (Nat.le_of_ble_eq_true rfl) (Nat.le_of_ble_eq_true rfl)) (cell_ok hX (Nat.le_of_ble_eq_true rfl) (Nat.le_of_ble_eq_true rfl)) (fun v12 h11 hf => ?_)
    refine s_lconst C dX5_takeFive_77 (v := (0 : Int64)) (by decide) ?_
    refine s_lcmp C dX5_takeFive_78 ?_
    refine s_jn hf (fun j96 e96 hf => ?_)
    have k96 : ∀ (h13 : AH), j96 h13 = some r → WW X h13 0 0 96 [none, none, none, none, none, none, none, none] [] := by
      intro h13 hf
      rw [e96] at hf
      refine s_iconst C dX5_takeFive_96 (v := (0 : Int32)) (by decide) ?_
      exact s_zreturn C E dX5_takeFive_97 hf (Nat.le_of_ble_eq_true rfl) (Nat.le_of_ble_eq_true rfl)
    refine s_if_ne (tgt := 96) C dX5_takeFive_79 (by decide) hf (fun hf => ?_) (fun hf => ?_)
    · refine s_weak (lv' := [none, none, none, none, none, none, none, none]) trivial ?_
      exact k96 _ hf
    · refine s_iload C dX5_takeFive_82 rfl ?_
      refine s_iload C dX5_takeFive_84 rfl ?_
      refine s_iload C dX5_takeFive_86 rfl ?_
      refine s_iload C dX5_takeFive_88 rfl ?_
      refine s_callS (rvf := fun x => some (.int x)) (st := []) (fr := 0) (lo := 0) (mc := 0) (ms := 0) C wc_X5_isTelling wml_X5_67 wst_X5_isTelling dX5_takeFive_90 (As := [.inl v4.toInt32, .inl v6.toInt32, .inl v8.toInt32, .inl v10.toInt32]) rfl hf (fun x h' hF => c_X5_isTelling _ _ _ _ _ _ _ (x, h') hF) rfl (Nat.le_of_ble_eq_true rfl) (room_ok hX (Nat.le_of_ble_eq_true rfl) (Nat.le_of_ble_eq_true rfl)) (cell_ok hX (Nat.le_of_ble_eq_true rfl) (Nat.le_of_ble_eq_true rfl)) (fun v15 h14 hf => ?_)
      refine s_if_ne (tgt := 98) C dX5_takeFive_93 (by decide) hf (fun hf => ?_) (fun hf => ?_)
      · refine s_aload_n C dX5_takeFive_98 rfl ?_
        refine s_getR C fl_X5_11 dX5_takeFive_99 hf (fun v16 hf => ?_)
        refine s_aload_n C dX5_takeFive_102 rfl ?_
        refine s_getI C fl_X5_37 dX5_takeFive_103 hf (fun v17 hf => ?_)
        refine s_iload C dX5_takeFive_106 rfl ?_
        refine s_iastore C dX5_takeFive_108 hf (fun h18 hf => ?_)
        refine s_aload_n C dX5_takeFive_109 rfl ?_
        refine s_getR C fl_X5_15 dX5_takeFive_110 hf (fun v19 hf => ?_)
        refine s_aload_n C dX5_takeFive_113 rfl ?_
        refine s_getI C fl_X5_37 dX5_takeFive_114 hf (fun v20 hf => ?_)
        refine s_iload C dX5_takeFive_117 rfl ?_
        refine s_iastore C dX5_takeFive_119 hf (fun h21 hf => ?_)
        refine s_aload_n C dX5_takeFive_120 rfl ?_
        refine s_getR C fl_X5_18 dX5_takeFive_121 hf (fun v22 hf => ?_)
        refine s_aload_n C dX5_takeFive_124 rfl ?_
        refine s_getI C fl_X5_37 dX5_takeFive_125 hf (fun v23 hf => ?_)
        refine s_iload C dX5_takeFive_128 rfl ?_
        refine s_iastore C dX5_takeFive_130 hf (fun h24 hf => ?_)
        refine s_aload_n C dX5_takeFive_131 rfl ?_
        refine s_getR C fl_X5_21 dX5_takeFive_132 hf (fun v25 hf => ?_)
        refine s_aload_n C dX5_takeFive_135 rfl ?_
        refine s_getI C fl_X5_37 dX5_takeFive_136 hf (fun v26 hf => ?_)
        refine s_iload C dX5_takeFive_139 rfl ?_
        refine s_iastore C dX5_takeFive_141 hf (fun h27 hf => ?_)
        refine s_aload_n C dX5_takeFive_142 rfl ?_
        refine s_getR C fl_X5_24 dX5_takeFive_143 hf (fun v28 hf => ?_)
        refine s_aload_n C dX5_takeFive_146 rfl ?_
        refine s_getI C fl_X5_37 dX5_takeFive_147 hf (fun v29 hf => ?_)
        refine s_iload C dX5_takeFive_150 rfl ?_
        refine s_iconst C dX5_takeFive_152 (v := (2 : Int32)) (by decide) ?_
        refine s_jn hf (fun j168 e168 hf => ?_)
        have k168 : ∀ (x30 : Int32), j168 x30 = some r → WW X h27 0 0 168 [some (rB (xD X).1 o), none, none, none, some (.int v4.toInt32), some (.int v6.toInt32), some (.int v8.toInt32), none] [.int x30, .int v29, rB (xD X).1 v28] := by
          intro x30 hf
          rw [e168] at hf
          refine s_iastore C dX5_takeFive_168 hf (fun h31 hf => ?_)
          refine s_aload_n C dX5_takeFive_169 rfl ?_
          refine s_dup C dX5_takeFive_170 c1_r ?_
          refine s_getI C fl_X5_40 dX5_takeFive_171 hf (fun v32 hf => ?_)
          refine s_iload C dX5_takeFive_174 rfl ?_
          refine s_bipush C dX5_takeFive_176 (v := (6 : Int32)) (by decide) ?_
          refine s_jn hf (fun j189 e189 hf => ?_)
          have k189 : ∀ (x33 : Int32), j189 x33 = some r → WW X h31 0 0 189 [some (rB (xD X).1 o), none, none, none, some (.int v4.toInt32), none, some (.int v8.toInt32), none] [.int x33, .int v32, rB (xD X).1 o] := by
            intro x33 hf
            rw [e189] at hf
            refine s_ior C dX5_takeFive_189 ?_
            refine s_putI C fl_X5_40 (by decide) dX5_takeFive_190 hf (fun h34 hf => ?_)
            refine s_aload_n C dX5_takeFive_193 rfl ?_
            refine s_dup C dX5_takeFive_194 c1_r ?_
            refine s_getI C fl_X5_40 dX5_takeFive_195 hf (fun v35 hf => ?_)
            refine s_iload C dX5_takeFive_198 rfl ?_
            refine s_iconst C dX5_takeFive_200 (v := (2 : Int32)) (by decide) ?_
            refine s_jn hf (fun j212 e212 hf => ?_)
            have k212 : ∀ (x36 : Int32), j212 x36 = some r → WW X h34 0 0 212 [some (rB (xD X).1 o), none, none, none, some (.int v4.toInt32), none, none, none] [.int x36, .int v35, rB (xD X).1 o] := by
              intro x36 hf
              rw [e212] at hf
              refine s_ior C dX5_takeFive_212 ?_
              refine s_putI C fl_X5_40 (by decide) dX5_takeFive_213 hf (fun h37 hf => ?_)
              refine s_aload_n C dX5_takeFive_216 rfl ?_
              refine s_iload C dX5_takeFive_217 rfl ?_
              refine s_iconst C dX5_takeFive_219 (v := (4 : Int32)) (by decide) ?_
              refine s_jn hf (fun j234 e234 hf => ?_)
              have k234 : ∀ (x38 : Int32), j234 x38 = some r → WW X h37 0 0 234 [some (rB (xD X).1 o), none, none, none, some (.int v4.toInt32), none, none, none] [.int x38, rB (xD X).1 o] := by
                intro x38 hf
                rw [e234] at hf
                refine s_putI C fl_X5_27 (by decide) dX5_takeFive_234 hf (fun h39 hf => ?_)
                refine s_aload_n C dX5_takeFive_237 rfl ?_
                refine s_iload C dX5_takeFive_238 rfl ?_
                refine s_iconst C dX5_takeFive_240 (v := (5 : Int32)) (by decide) ?_
                refine s_jn hf (fun j255 e255 hf => ?_)
                have k255 : ∀ (x40 : Int32), j255 x40 = some r → WW X h39 0 0 255 [some (rB (xD X).1 o), none, none, none, none, none, none, none] [.int x40, rB (xD X).1 o] := by
                  intro x40 hf
                  rw [e255] at hf
                  refine s_putI C fl_X5_31 (by decide) dX5_takeFive_255 hf (fun h41 hf => ?_)
                  refine s_aload_n C dX5_takeFive_258 rfl ?_
                  refine s_dup C dX5_takeFive_259 c1_r ?_
                  refine s_getI C fl_X5_37 dX5_takeFive_260 hf (fun v42 hf => ?_)
                  refine s_iconst C dX5_takeFive_263 (v := (1 : Int32)) (by decide) ?_
                  refine s_iadd C dX5_takeFive_264 ?_
                  refine s_putI C fl_X5_37 (by decide) dX5_takeFive_265 hf (fun h43 hf => ?_)
                  refine s_iconst C dX5_takeFive_268 (v := (1 : Int32)) (by decide) ?_
                  exact s_zreturn C E dX5_takeFive_269 hf (Nat.le_of_ble_eq_true rfl) (Nat.le_of_ble_eq_true rfl)
                refine s_icmp_ne (tgt := 251) C dX5_takeFive_241 (by decide) hf (fun hf => ?_) (fun hf => ?_)
                · refine s_aload_n C dX5_takeFive_251 rfl ?_
                  refine s_getI C fl_X5_31 dX5_takeFive_252 hf (fun v44 hf => ?_)
                  refine s_weak (lv' := [some (rB (xD X).1 o), none, none, none, none, none, none, none]) ⟨rfl, trivial⟩ ?_
                  exact k255 _ hf
                · refine s_aload_n C dX5_takeFive_244 rfl ?_
                  refine s_getI C fl_X5_37 dX5_takeFive_245 hf (fun v45 hf => ?_)
                  refine s_goto (tgt := 255) C dX5_takeFive_248 (by decide) ?_
                  refine s_weak (lv' := [some (rB (xD X).1 o), none, none, none, none, none, none, none]) ⟨rfl, trivial⟩ ?_
                  exact k255 _ hf
              refine s_icmp_ne (tgt := 230) C dX5_takeFive_220 (by decide) hf (fun hf => ?_) (fun hf => ?_)
              · refine s_aload_n C dX5_takeFive_230 rfl ?_
                refine s_getI C fl_X5_27 dX5_takeFive_231 hf (fun v46 hf => ?_)
                exact k234 _ hf
              · refine s_aload_n C dX5_takeFive_223 rfl ?_
                refine s_getI C fl_X5_37 dX5_takeFive_224 hf (fun v47 hf => ?_)
                refine s_goto (tgt := 234) C dX5_takeFive_227 (by decide) ?_
                exact k234 _ hf
            refine s_icmp_le (tgt := 208) C dX5_takeFive_201 (by decide) hf (fun hf => ?_) (fun hf => ?_)
            · refine s_iconst C dX5_takeFive_208 (v := (1 : Int32)) (by decide) ?_
              refine s_iload C dX5_takeFive_209 rfl ?_
              refine s_ishl C dX5_takeFive_211 ?_
              refine s_weak (lv' := [some (rB (xD X).1 o), none, none, none, some (.int v4.toInt32), none, none, none]) ⟨rfl, ⟨rfl, trivial⟩⟩ ?_
              exact k212 _ hf
            · refine s_iconst C dX5_takeFive_204 (v := (0 : Int32)) (by decide) ?_
              refine s_goto (tgt := 212) C dX5_takeFive_205 (by decide) ?_
              refine s_weak (lv' := [some (rB (xD X).1 o), none, none, none, some (.int v4.toInt32), none, none, none]) ⟨rfl, ⟨rfl, trivial⟩⟩ ?_
              exact k212 _ hf
          refine s_icmp_ne (tgt := 185) C dX5_takeFive_178 (by decide) hf (fun hf => ?_) (fun hf => ?_)
          · refine s_iconst C dX5_takeFive_185 (v := (1 : Int32)) (by decide) ?_
            refine s_iload C dX5_takeFive_186 rfl ?_
            refine s_ishl C dX5_takeFive_188 ?_
            refine s_weak (lv' := [some (rB (xD X).1 o), none, none, none, some (.int v4.toInt32), none, some (.int v8.toInt32), none]) ⟨rfl, ⟨rfl, ⟨rfl, trivial⟩⟩⟩ ?_
            exact k189 _ hf
          · refine s_iconst C dX5_takeFive_181 (v := (0 : Int32)) (by decide) ?_
            refine s_goto (tgt := 189) C dX5_takeFive_182 (by decide) ?_
            refine s_weak (lv' := [some (rB (xD X).1 o), none, none, none, some (.int v4.toInt32), none, some (.int v8.toInt32), none]) ⟨rfl, ⟨rfl, ⟨rfl, trivial⟩⟩⟩ ?_
            exact k189 _ hf
        refine s_icmp_le (tgt := 161) C dX5_takeFive_153 (by decide) hf (fun hf => ?_) (fun hf => ?_)
        · refine s_iload C dX5_takeFive_161 rfl ?_
          refine s_iload C dX5_takeFive_163 rfl ?_
          refine s_mmax C wml_X5_71 wst_mmax wini_math wcd_mmax dX5_takeFive_165 (Nat.le_of_ble_eq_true rfl) (room_n hX (Nat.le_of_ble_eq_true rfl) (Nat.le_of_ble_eq_true rfl)) (cell_ok hX (Nat.le_of_ble_eq_true rfl) (Nat.le_of_ble_eq_true rfl)) ?_
          refine s_weak (lv' := [some (rB (xD X).1 o), none, none, none, some (.int v4.toInt32), some (.int v6.toInt32), some (.int v8.toInt32), none]) ⟨rfl, ⟨rfl, ⟨rfl, ⟨rfl, trivial⟩⟩⟩⟩ ?_
          exact k168 _ hf
        · refine s_iload C dX5_takeFive_156 rfl ?_
          refine s_goto (tgt := 168) C dX5_takeFive_158 (by decide) ?_
          refine s_weak (lv' := [some (rB (xD X).1 o), none, none, none, some (.int v4.toInt32), some (.int v6.toInt32), some (.int v8.toInt32), none]) ⟨rfl, ⟨rfl, ⟨rfl, ⟨rfl, trivial⟩⟩⟩⟩ ?_
          exact k168 _ hf
      · refine s_weak (lv' := [none, none, none, none, none, none, none, none]) trivial ?_
        exact k96 _ hf
  · refine s_iconst C dX5_takeFive_9 (v := (0 : Int32)) (by decide) ?_
    exact s_zreturn C E dX5_takeFive_10 hf (Nat.le_of_ble_eq_true rfl) (Nat.le_of_ble_eq_true rfl)
/-- HillBoxes$Riddle.takeTellings(LHillBoxes$Shelf;II)I -/
noncomputable def f_X5_takeTellings (o : Option Nat) (a1 : Option Nat) (a2 : Int32) (a3 : Int32) (h : AH) : Option (Int32 × AH) :=
  pI h [5] o 8 (0 : Int32) fun h1 =>
  pI h1 [5] o 9 (0 : Int32) fun h2 =>
  pI h2 [5] o 10 (-1 : Int32) fun h3 =>
  pI h3 [5] o 11 (-1 : Int32) fun h4 =>
  lp (fun _ _ => none) (fun (L23 : Int32 → AH → Option (Int32 × AH)) (x5 : Int32) (h6 : AH) =>
    jn (fun (h7 : AH) =>
      fI h7 [5] o 8 fun v8 =>
      some (v8, h7)) fun j63 =>
    if a3 ≤ x5 then
      j63 h6
    else
      if (8 : Int32) ≤ x5 then
        j63 h6
      else
        rO h6 [5] o <| cl (f_X5_takeFive o a1 (a2.toInt64 + ((5 : Int64) * x5.toInt64)) h6) fun v10 h9 =>
        if v10 = 0 then
          j63 h9
        else
          L23 (x5 + 1) h9) lpN (0 : Int32) h4
set_option maxRecDepth 100000 in
set_option maxHeartbeats 4000000 in
theorem c_X5_takeTellings (l : Launch) (D : DT) (o : Option Nat) (a1 : Option Nat) (a2 : Int32) (a3 : Int32) (h : AH) (r : Int32 × AH) (hf : f_X5_takeTellings o a1 a2 a3 h = some r) : CM l D yX5_takeTellings cX5_takeTellings 5 (some .int) 3 74 0 0 [.inr (.inr o), .inr (.inr a1), .inl a2, .inl a3] h (some (.int r.1)) r.2 := by
  refine CM.of (by decide) (Nat.le_of_ble_eq_true rfl) (fun X hl C hD hX hnm E => ?_)
  subst hl
  subst hD
  have C : CX X RX5 cX5_takeTellings 5 := C
  show WW X h 0 0 0 [some (rB (xD X).1 o), some (rB (xD X).1 a1), some (.int a2), some (.int a3), none] []
  unfold f_X5_takeTellings at hf
  refine s_aload_n C dX5_takeTellings_0 rfl ?_
  refine s_iconst C dX5_takeTellings_1 (v := (0 : Int32)) (by decide) ?_
  refine s_putI C fl_X5_37 (by decide) dX5_takeTellings_2 hf (fun h1 hf => ?_)
  refine s_aload_n C dX5_takeTellings_5 rfl ?_
  refine s_iconst C dX5_takeTellings_6 (v := (0 : Int32)) (by decide) ?_
  refine s_putI C fl_X5_40 (by decide) dX5_takeTellings_7 hf (fun h2 hf => ?_)
  refine s_aload_n C dX5_takeTellings_10 rfl ?_
  refine s_iconst C dX5_takeTellings_11 (v := (-1 : Int32)) (by decide) ?_
  refine s_putI C fl_X5_27 (by decide) dX5_takeTellings_12 hf (fun h3 hf => ?_)
  refine s_aload_n C dX5_takeTellings_15 rfl ?_
  refine s_iconst C dX5_takeTellings_16 (v := (-1 : Int32)) (by decide) ?_
  refine s_putI C fl_X5_31 (by decide) dX5_takeTellings_17 hf (fun h4 hf => ?_)
  refine s_iconst C dX5_takeTellings_20 (v := (0 : Int32)) (by decide) ?_
  refine s_istore C dX5_takeTellings_21 (by decide) (nc_i rfl) (lv' := [some (rB (xD X).1 o), some (rB (xD X).1 a1), some (.int a2), some (.int a3), some (.int (0 : Int32))]) rfl ?_
  refine s_lp2 hf (fun G23 z23 q23 hf => ?_)
  have k23 : ∀ (n : Nat) (x5 : Int32) (h6 : AH), G23 n x5 h6 = some r → WW X h6 0 0 23 [some (rB (xD X).1 o), some (rB (xD X).1 a1), some (.int a2), some (.int a3), some (.int x5)] [] := by
    intro n
    induction n with
    | zero =>
      intro x5 h6 hf
      rw [z23] at hf
      cases hf
    | succ n ih23 =>
      intro x5 h6 hf
      have hf := (q23 n x5 h6).symm.trans hf
      refine s_iload C dX5_takeTellings_23 rfl ?_
      refine s_iload_n C dX5_takeTellings_25 rfl ?_
      refine s_jn hf (fun j63 e63 hf => ?_)
      have k63 : ∀ (h7 : AH), j63 h7 = some r → WW X h7 0 0 63 [some (rB (xD X).1 o), none, none, none, none] [] := by
        intro h7 hf
        rw [e63] at hf
        refine s_aload_n C dX5_takeTellings_63 rfl ?_
        refine s_getI C fl_X5_37 dX5_takeTellings_64 hf (fun v8 hf => ?_)
        exact s_ireturn C E dX5_takeTellings_67 hf (Nat.le_of_ble_eq_true rfl) (Nat.le_of_ble_eq_true rfl)
      refine s_icmp_ge (tgt := 63) C dX5_takeTellings_26 (by decide) hf (fun hf => ?_) (fun hf => ?_)
      · refine s_weak (lv' := [some (rB (xD X).1 o), none, none, none, none]) ⟨rfl, trivial⟩ ?_
        exact k63 _ hf
      · refine s_iload C dX5_takeTellings_29 rfl ?_
        refine s_bipush C dX5_takeTellings_31 (v := (8 : Int32)) (by decide) ?_
        refine s_icmp_ge (tgt := 63) C dX5_takeTellings_33 (by decide) hf (fun hf => ?_) (fun hf => ?_)
        · refine s_weak (lv' := [some (rB (xD X).1 o), none, none, none, none]) ⟨rfl, trivial⟩ ?_
          exact k63 _ hf
        · refine s_aload_n C dX5_takeTellings_36 rfl ?_
          refine s_aload_n C dX5_takeTellings_37 rfl ?_
          refine s_iload_n C dX5_takeTellings_38 rfl ?_
          refine s_i2l C dX5_takeTellings_39 ?_
          refine s_ldc2 C dX5_takeTellings_40 wk_X5_43 ?_
          refine s_iload C dX5_takeTellings_43 rfl ?_
          refine s_i2l C dX5_takeTellings_45 ?_
          refine s_lmul C dX5_takeTellings_46 ?_
          refine s_ladd C dX5_takeTellings_47 ?_
          refine s_callV (rvf := fun x => some (.int x)) (st := []) (fr := 2) (lo := 47) (mc := 0) (ms := 0) C [5] wc_X5_takeFive wml_X5_45 wim_X5_takeFive wsl_5_X5_takeFive dX5_takeTellings_48 (As := [.inr (.inr a1), .inr (.inl (a2.toInt64 + ((5 : Int64) * x5.toInt64)))]) rfl hf (fun x h' hF => c_X5_takeFive _ _ _ _ _ _ (x, h') hF) rfl (Nat.le_of_ble_eq_true rfl) (room_ok hX (Nat.le_of_ble_eq_true rfl) (Nat.le_of_ble_eq_true rfl)) (cell_ok hX (Nat.le_of_ble_eq_true rfl) (Nat.le_of_ble_eq_true rfl)) (fun v10 h9 hf => ?_)
          refine s_if_ne (tgt := 57) C dX5_takeTellings_51 (by decide) hf (fun hf => ?_) (fun hf => ?_)
          · refine s_iinc C dX5_takeTellings_57 (v := (x5 + 1)) rfl rfl (by decide) (nc_i rfl) (lv' := [some (rB (xD X).1 o), some (rB (xD X).1 a1), some (.int a2), some (.int a3), some (.int (x5 + 1))]) rfl ?_
            refine s_goto (tgt := 23) C dX5_takeTellings_60 (by decide) ?_
            exact ih23 _ _ hf
          · refine s_goto (tgt := 63) C dX5_takeTellings_54 (by decide) ?_
            refine s_weak (lv' := [some (rB (xD X).1 o), none, none, none, none]) ⟨rfl, trivial⟩ ?_
            exact k63 _ hf
  exact k23 lpN _ _ hf
/-- HillBoxes.riddle(IIII)I -/
noncomputable def f_X11_riddle (o : Option Nat) (a1 : Int32) (a2 : Int32) (a3 : Int32) (a4 : Int32) (h : AH) : Option (Int32 × AH) :=
  rO h [11] o <| cl (f_X11_riddleOf o a1 h) fun v2 h1 =>
  rO h1 [11] o <| cl (f_X11_shelfAt o a2 h1) fun v4 h3 =>
  jn (
    some ((-1 : Int32), h3)) fun j37 =>
  if v2 = none then
    j37
  else
    if v4 = none then
      j37
    else
      if a4 < (1 : Int32) then
        j37
      else
        if a4 ≤ (8 : Int32) then
          rO h3 [7] v4 <| cl (f_X7_isEmpty v4 h3) fun v6 h5 =>
          jn (fun (h7 : AH) =>
            rO h7 [5] v2 <| cl (f_X5_takeTellings v2 v4 a3 a4 h7) fun v9 h8 =>
            some (v9, h8)) fun j59 =>
          if v6 = 0 then
            rO h5 [7] v4 <| cl (f_X7_isRowOf v4 (0 : Int32) h5) fun v11 h10 =>
            if v11 = 0 then
              some ((-12 : Int32), h10)
            else
              j59 h10
          else
            j59 h5
        else
          j37
set_option maxRecDepth 100000 in
set_option maxHeartbeats 4000000 in
theorem c_X11_riddle (l : Launch) (D : DT) (o : Option Nat) (a1 : Int32) (a2 : Int32) (a3 : Int32) (a4 : Int32) (h : AH) (r : Int32 × AH) (hf : f_X11_riddle o a1 a2 a3 a4 h = some r) : CM l D yX11_riddle cX11_riddle 7 (some .int) 4 98 0 0 [.inr (.inr o), .inl a1, .inl a2, .inl a3, .inl a4] h (some (.int r.1)) r.2 := by
  refine CM.of (by decide) (Nat.le_of_ble_eq_true rfl) (fun X hl C hD hX hnm E => ?_)
  subst hl
  subst hD
  have C : CX X RX11 cX11_riddle 7 := C
  show WW X h 0 0 0 [some (rB (xD X).1 o), some (.int a1), some (.int a2), some (.int a3), some (.int a4), none, none] []
  unfold f_X11_riddle at hf
  refine s_aload_n C dX11_riddle_0 rfl ?_
  refine s_iload_n C dX11_riddle_1 rfl ?_
  refine s_callV (rvf := fun x => some (rB (xD X).1 x)) (st := []) (fr := 1) (lo := 22) (mc := 0) (ms := 0) C [11] wc_X11_riddleOf wml_X11_234 wim_X11_riddleOf wsl_11_X11_riddleOf dX11_riddle_2 (As := [.inl a1]) rfl hf (fun x h' hF => c_X11_riddleOf _ _ _ _ _ (x, h') hF) rfl (Nat.le_of_ble_eq_true rfl) (room_ok hX (Nat.le_of_ble_eq_true rfl) (Nat.le_of_ble_eq_true rfl)) (cell_ok hX (Nat.le_of_ble_eq_true rfl) (Nat.le_of_ble_eq_true rfl)) (fun v2 h1 hf => ?_)
  refine s_astore C dX11_riddle_5 (by decide) (nc_i rfl) (lv' := [some (rB (xD X).1 o), some (.int a1), some (.int a2), some (.int a3), some (.int a4), some (rB (xD X).1 v2), none]) rfl ?_
  refine s_aload_n C dX11_riddle_7 rfl ?_
  refine s_iload_n C dX11_riddle_8 rfl ?_
  refine s_callV (rvf := fun x => some (rB (xD X).1 x)) (st := []) (fr := 0) (lo := 0) (mc := 0) (ms := 0) C [11] wc_X11_shelfAt wml_X11_238 wim_X11_shelfAt wsl_11_X11_shelfAt dX11_riddle_9 (As := [.inl a2]) rfl hf (fun x h' hF => c_X11_shelfAt _ _ _ _ _ (x, h') hF) rfl (Nat.le_of_ble_eq_true rfl) (room_ok hX (Nat.le_of_ble_eq_true rfl) (Nat.le_of_ble_eq_true rfl)) (cell_ok hX (Nat.le_of_ble_eq_true rfl) (Nat.le_of_ble_eq_true rfl)) (fun v4 h3 hf => ?_)
  refine s_astore C dX11_riddle_12 (by decide) (nc_r rfl) (lv' := [some (rB (xD X).1 o), some (.int a1), some (.int a2), some (.int a3), some (.int a4), some (rB (xD X).1 v2), some (rB (xD X).1 v4)]) rfl ?_
  refine s_aload C dX11_riddle_14 rfl ?_
  refine s_jn hf (fun j37 e37 hf => ?_)
  have k37 : j37  = some r → WW X h3 0 0 37 [none, none, none, none, none, none, none] [] := by
    intro  hf
    rw [e37] at hf
    refine s_iconst C dX11_riddle_37 (v := (-1 : Int32)) (by decide) ?_
    exact s_ireturn C E dX11_riddle_38 hf (Nat.le_of_ble_eq_true rfl) (Nat.le_of_ble_eq_true rfl)
  refine s_ifnull (tgt := 37) C dX11_riddle_16 (by decide) hf (fun hf => ?_) (fun hf => ?_)
  · refine s_weak (lv' := [none, none, none, none, none, none, none]) trivial ?_
    exact k37 hf
  · refine s_aload C dX11_riddle_19 rfl ?_
    refine s_ifnull (tgt := 37) C dX11_riddle_21 (by decide) hf (fun hf => ?_) (fun hf => ?_)
    · refine s_weak (lv' := [none, none, none, none, none, none, none]) trivial ?_
      exact k37 hf
    · refine s_iload C dX11_riddle_24 rfl ?_
      refine s_iconst C dX11_riddle_26 (v := (1 : Int32)) (by decide) ?_
      refine s_icmp_lt (tgt := 37) C dX11_riddle_27 (by decide) hf (fun hf => ?_) (fun hf => ?_)
      · refine s_weak (lv' := [none, none, none, none, none, none, none]) trivial ?_
        exact k37 hf
      · refine s_iload C dX11_riddle_30 rfl ?_
        refine s_bipush C dX11_riddle_32 (v := (8 : Int32)) (by decide) ?_
        refine s_icmp_le (tgt := 39) C dX11_riddle_34 (by decide) hf (fun hf => ?_) (fun hf => ?_)
        · refine s_aload C dX11_riddle_39 rfl ?_
          refine s_callV (rvf := fun x => some (.int x)) (st := []) (fr := 0) (lo := 0) (mc := 0) (ms := 0) C [7] wc_X7_isEmpty wml_X11_244 wim_X7_isEmpty wsl_7_X7_isEmpty dX11_riddle_41 (As := []) rfl hf (fun x h' hF => c_X7_isEmpty _ _ _ _ (x, h') hF) rfl (Nat.le_of_ble_eq_true rfl) (room_ok hX (Nat.le_of_ble_eq_true rfl) (Nat.le_of_ble_eq_true rfl)) (cell_ok hX (Nat.le_of_ble_eq_true rfl) (Nat.le_of_ble_eq_true rfl)) (fun v6 h5 hf => ?_)
          refine s_jn hf (fun j59 e59 hf => ?_)
          have k59 : ∀ (h7 : AH), j59 h7 = some r → WW X h7 0 0 59 [none, none, none, some (.int a3), some (.int a4), some (rB (xD X).1 v2), some (rB (xD X).1 v4)] [] := by
            intro h7 hf
            rw [e59] at hf
            refine s_aload C dX11_riddle_59 rfl ?_
            refine s_aload C dX11_riddle_61 rfl ?_
            refine s_iload_n C dX11_riddle_63 rfl ?_
            refine s_iload C dX11_riddle_64 rfl ?_
            refine s_callV (rvf := fun x => some (.int x)) (st := []) (fr := 3) (lo := 74) (mc := 0) (ms := 0) C [5] wc_X5_takeTellings wml_X11_250 wim_X5_takeTellings wsl_5_X5_takeTellings dX11_riddle_66 (As := [.inr (.inr v4), .inl a3, .inl a4]) rfl hf (fun x h' hF => c_X5_takeTellings _ _ _ _ _ _ _ (x, h') hF) rfl (Nat.le_of_ble_eq_true rfl) (room_ok hX (Nat.le_of_ble_eq_true rfl) (Nat.le_of_ble_eq_true rfl)) (cell_ok hX (Nat.le_of_ble_eq_true rfl) (Nat.le_of_ble_eq_true rfl)) (fun v9 h8 hf => ?_)
            exact s_ireturn C E dX11_riddle_69 hf (Nat.le_of_ble_eq_true rfl) (Nat.le_of_ble_eq_true rfl)
          refine s_if_ne (tgt := 59) C dX11_riddle_44 (by decide) hf (fun hf => ?_) (fun hf => ?_)
          · refine s_weak (lv' := [none, none, none, some (.int a3), some (.int a4), some (rB (xD X).1 v2), some (rB (xD X).1 v4)]) ⟨rfl, ⟨rfl, ⟨rfl, ⟨rfl, trivial⟩⟩⟩⟩ ?_
            exact k59 _ hf
          · refine s_aload C dX11_riddle_47 rfl ?_
            refine s_iconst C dX11_riddle_49 (v := (0 : Int32)) (by decide) ?_
            refine s_callV (rvf := fun x => some (.int x)) (st := []) (fr := 0) (lo := 0) (mc := 0) (ms := 0) C [7] wc_X7_isRowOf wml_X11_247 wim_X7_isRowOf wsl_7_X7_isRowOf dX11_riddle_50 (As := [.inl (0 : Int32)]) rfl hf (fun x h' hF => c_X7_isRowOf _ _ _ _ _ (x, h') hF) rfl (Nat.le_of_ble_eq_true rfl) (room_ok hX (Nat.le_of_ble_eq_true rfl) (Nat.le_of_ble_eq_true rfl)) (cell_ok hX (Nat.le_of_ble_eq_true rfl) (Nat.le_of_ble_eq_true rfl)) (fun v11 h10 hf => ?_)
            refine s_if_ne (tgt := 59) C dX11_riddle_53 (by decide) hf (fun hf => ?_) (fun hf => ?_)
            · refine s_weak (lv' := [none, none, none, some (.int a3), some (.int a4), some (rB (xD X).1 v2), some (rB (xD X).1 v4)]) ⟨rfl, ⟨rfl, ⟨rfl, ⟨rfl, trivial⟩⟩⟩⟩ ?_
              exact k59 _ hf
            · refine s_bipush C dX11_riddle_56 (v := (-12 : Int32)) (by decide) ?_
              exact s_ireturn C E dX11_riddle_58 hf (Nat.le_of_ble_eq_true rfl) (Nat.le_of_ble_eq_true rfl)
        · refine s_weak (lv' := [none, none, none, none, none, none, none]) trivial ?_
          exact k37 hf
/-- java/util/Arrays.fill([JJ)V -/
noncomputable def f_J7_fill_d0a16 (a0 : Option Nat) (a1 : Int64) (h : AH) : Option (Unit × AH) :=
  aN h 24 a0 fun v1 =>
  lp (fun _ _ => none) (fun (L6 : Int32 → AH → Option (Unit × AH)) (x2 : Int32) (h3 : AH) =>
    if v1 ≤ x2 then
      some ((), h3)
    else
      bL h3 24 a0 x2 a1 fun h4 =>
      L6 (x2 + 1) h4) lpN (0 : Int32) h
set_option maxRecDepth 100000 in
set_option maxHeartbeats 4000000 in
theorem c_J7_fill_d0a16 (l : Launch) (D : DT) (a0 : Option Nat) (a1 : Int64) (h : AH) (r : Unit × AH) (hf : f_J7_fill_d0a16 a0 a1 h = some r) : CM l D yJ7_fill_d0a16 cJ7_fill_d0a16 5 none 0 0 0 0 [.inr (.inr a0), .inr (.inl a1)] h none r.2 := by
  refine CM.of (by decide) (Nat.le_of_ble_eq_true rfl) (fun X hl C hD hX hnm E => ?_)
  subst hl
  subst hD
  have C : CX X RJ7 cJ7_fill_d0a16 5 := C
  show WW X h 0 0 0 [some (rB (xD X).1 a0), some (.long a1), none, none, none] []
  unfold f_J7_fill_d0a16 at hf
  refine s_iconst C dJ7_fill_d0a16_0 (v := (0 : Int32)) (by decide) ?_
  refine s_istore_n C dJ7_fill_d0a16_1 (by decide) (nc_n rfl) (lv' := [some (rB (xD X).1 a0), some (.long a1), none, some (.int (0 : Int32)), none]) rfl ?_
  refine s_aload_n C dJ7_fill_d0a16_2 rfl ?_
  refine s_alen C dJ7_fill_d0a16_3 (t := 24) (by decide) hf (fun v1 hf => ?_)
  refine s_istore C dJ7_fill_d0a16_4 (by decide) (nc_i rfl) (lv' := [some (rB (xD X).1 a0), some (.long a1), none, some (.int (0 : Int32)), some (.int v1)]) rfl ?_
  refine s_lp2 hf (fun G6 z6 q6 hf => ?_)
  have k6 : ∀ (n : Nat) (x2 : Int32) (h3 : AH), G6 n x2 h3 = some r → WW X h3 0 0 6 [some (rB (xD X).1 a0), some (.long a1), none, some (.int x2), some (.int v1)] [] := by
    intro n
    induction n with
    | zero =>
      intro x2 h3 hf
      rw [z6] at hf
      cases hf
    | succ n ih6 =>
      intro x2 h3 hf
      have hf := (q6 n x2 h3).symm.trans hf
      refine s_iload_n C dJ7_fill_d0a16_6 rfl ?_
      refine s_iload C dJ7_fill_d0a16_7 rfl ?_
      refine s_icmp_ge (tgt := 22) C dJ7_fill_d0a16_9 (by decide) hf (fun hf => ?_) (fun hf => ?_)
      · exact s_return C E dJ7_fill_d0a16_22 hf (Nat.le_of_ble_eq_true rfl) (Nat.le_of_ble_eq_true rfl)
      · refine s_aload_n C dJ7_fill_d0a16_12 rfl ?_
        refine s_iload_n C dJ7_fill_d0a16_13 rfl ?_
        refine s_lload_n C dJ7_fill_d0a16_14 rfl ?_
        refine s_lastore C dJ7_fill_d0a16_15 hf (fun h4 hf => ?_)
        refine s_iinc C dJ7_fill_d0a16_16 (v := (x2 + 1)) rfl rfl (by decide) (nc_n rfl) (lv' := [some (rB (xD X).1 a0), some (.long a1), none, some (.int (x2 + 1)), some (.int v1)]) rfl ?_
        refine s_goto (tgt := 6) C dJ7_fill_d0a16_19 (by decide) ?_
        exact ih6 _ _ hf
  exact k6 lpN _ _ hf
/-- HillBoxes$Shelf.holdRow(II)V -/
noncomputable def f_X7_holdRow (o : Option Nat) (a1 : Int32) (a2 : Int32) (h : AH) : Option (Unit × AH) :=
  pR h [7] o 0 none fun h1 =>
  pZ h1 [7] o 1 (1 : Int32) fun h2 =>
  pI h2 [7] o 2 a1 fun h3 =>
  pI h3 [7] o 3 a2 fun h4 =>
  fR h4 [7] o 4 fun v5 =>
  cl (f_J7_fill_d0a16 v5 (0 : Int64) h4) fun _ h6 =>
  some ((), h6)
set_option maxRecDepth 100000 in
set_option maxHeartbeats 4000000 in
theorem c_X7_holdRow (l : Launch) (D : DT) (o : Option Nat) (a1 : Int32) (a2 : Int32) (h : AH) (r : Unit × AH) (hf : f_X7_holdRow o a1 a2 h = some r) : CM l D yX7_holdRow cX7_holdRow 3 none 1 24 0 0 [.inr (.inr o), .inl a1, .inl a2] h none r.2 := by
  refine CM.of (by decide) (Nat.le_of_ble_eq_true rfl) (fun X hl C hD hX hnm E => ?_)
  subst hl
  subst hD
  have C : CX X RX7 cX7_holdRow 3 := C
  show WW X h 0 0 0 [some (rB (xD X).1 o), some (.int a1), some (.int a2)] []
  unfold f_X7_holdRow at hf
  refine s_aload_n C dX7_holdRow_0 rfl ?_
  refine s_null C dX7_holdRow_1 ?_
  refine s_putR C fl_X7_15 dX7_holdRow_2 hf (fun h1 hf => ?_)
  refine s_aload_n C dX7_holdRow_5 rfl ?_
  refine s_iconst C dX7_holdRow_6 (v := (1 : Int32)) (by decide) ?_
  refine s_putZ C fl_X7_19 (by decide) dX7_holdRow_7 hf (fun h2 hf => ?_)
  refine s_aload_n C dX7_holdRow_10 rfl ?_
  refine s_iload_n C dX7_holdRow_11 rfl ?_
  refine s_putI C fl_X7_23 (by decide) dX7_holdRow_12 hf (fun h3 hf => ?_)
  refine s_aload_n C dX7_holdRow_15 rfl ?_
  refine s_iload_n C dX7_holdRow_16 rfl ?_
  refine s_putI C fl_X7_27 (by decide) dX7_holdRow_17 hf (fun h4 hf => ?_)
  refine s_aload_n C dX7_holdRow_20 rfl ?_
  refine s_getR C fl_X7_9 dX7_holdRow_21 hf (fun v5 hf => ?_)
  refine s_lconst C dX7_holdRow_24 (v := (0 : Int64)) (by decide) ?_
  refine s_callS (rvf := fun _ => none) (st := []) (fr := 0) (lo := 0) (mc := 0) (ms := 0) C wc_J7_fill_d0a16 wml_X7_30 wst_J7_fill_d0a16 dX7_holdRow_25 (As := [.inr (.inr v5), .inr (.inl (0 : Int64))]) rfl hf (fun x h' hF => c_J7_fill_d0a16 _ _ _ _ _ (x, h') hF) rfl (Nat.le_of_ble_eq_true rfl) (room_ok hX (Nat.le_of_ble_eq_true rfl) (Nat.le_of_ble_eq_true rfl)) (cell_ok hX (Nat.le_of_ble_eq_true rfl) (Nat.le_of_ble_eq_true rfl)) (fun _ h6 hf => ?_)
  exact s_return C E dX7_holdRow_28 hf (Nat.le_of_ble_eq_true rfl) (Nat.le_of_ble_eq_true rfl)
/-- HillBoxes.row(III)I -/
noncomputable def f_X11_row (o : Option Nat) (a1 : Int32) (a2 : Int32) (a3 : Int32) (h : AH) : Option (Int32 × AH) :=
  rO h [11] o <| cl (f_X11_shelfAt o a1 h) fun v2 h1 =>
  jn (
    some ((-1 : Int32), h1)) fun j27 =>
  if v2 = none then
    j27
  else
    if a2 < 0 then
      j27
    else
      if (4 : Int32) < a2 then
        j27
      else
        if a3 ≤ (60 : Int32) then
          if 0 ≤ a3 then
            rO h1 [7] v2 <| cl (f_X7_holdRow v2 a2 a3 h1) fun _ h3 =>
            some ((1 : Int32), h3)
          else
            some ((-14 : Int32), h1)
        else
          j27
set_option maxRecDepth 100000 in
set_option maxHeartbeats 4000000 in
theorem c_X11_row (l : Launch) (D : DT) (o : Option Nat) (a1 : Int32) (a2 : Int32) (a3 : Int32) (h : AH) (r : Int32 × AH) (hf : f_X11_row o a1 a2 a3 h = some r) : CM l D yX11_row cX11_row 5 (some .int) 2 46 0 0 [.inr (.inr o), .inl a1, .inl a2, .inl a3] h (some (.int r.1)) r.2 := by
  refine CM.of (by decide) (Nat.le_of_ble_eq_true rfl) (fun X hl C hD hX hnm E => ?_)
  subst hl
  subst hD
  have C : CX X RX11 cX11_row 5 := C
  show WW X h 0 0 0 [some (rB (xD X).1 o), some (.int a1), some (.int a2), some (.int a3), none] []
  unfold f_X11_row at hf
  refine s_aload_n C dX11_row_0 rfl ?_
  refine s_iload_n C dX11_row_1 rfl ?_
  refine s_callV (rvf := fun x => some (rB (xD X).1 x)) (st := []) (fr := 0) (lo := 0) (mc := 0) (ms := 0) C [11] wc_X11_shelfAt wml_X11_238 wim_X11_shelfAt wsl_11_X11_shelfAt dX11_row_2 (As := [.inl a1]) rfl hf (fun x h' hF => c_X11_shelfAt _ _ _ _ _ (x, h') hF) rfl (Nat.le_of_ble_eq_true rfl) (room_ok hX (Nat.le_of_ble_eq_true rfl) (Nat.le_of_ble_eq_true rfl)) (cell_ok hX (Nat.le_of_ble_eq_true rfl) (Nat.le_of_ble_eq_true rfl)) (fun v2 h1 hf => ?_)
  refine s_astore C dX11_row_5 (by decide) (nc_i rfl) (lv' := [some (rB (xD X).1 o), some (.int a1), some (.int a2), some (.int a3), some (rB (xD X).1 v2)]) rfl ?_
  refine s_aload C dX11_row_7 rfl ?_
  refine s_jn hf (fun j27 e27 hf => ?_)
  have k27 : j27  = some r → WW X h1 0 0 27 [none, none, none, none, none] [] := by
    intro  hf
    rw [e27] at hf
    refine s_iconst C dX11_row_27 (v := (-1 : Int32)) (by decide) ?_
    exact s_ireturn C E dX11_row_28 hf (Nat.le_of_ble_eq_true rfl) (Nat.le_of_ble_eq_true rfl)
  refine s_ifnull (tgt := 27) C dX11_row_9 (by decide) hf (fun hf => ?_) (fun hf => ?_)
  · refine s_weak (lv' := [none, none, none, none, none]) trivial ?_
    exact k27 hf
  · refine s_iload_n C dX11_row_12 rfl ?_
    refine s_if_lt (tgt := 27) C dX11_row_13 (by decide) hf (fun hf => ?_) (fun hf => ?_)
    · refine s_weak (lv' := [none, none, none, none, none]) trivial ?_
      exact k27 hf
    · refine s_iload_n C dX11_row_16 rfl ?_
      refine s_iconst C dX11_row_17 (v := (4 : Int32)) (by decide) ?_
      refine s_icmp_gt (tgt := 27) C dX11_row_18 (by decide) hf (fun hf => ?_) (fun hf => ?_)
      · refine s_weak (lv' := [none, none, none, none, none]) trivial ?_
        exact k27 hf
      · refine s_iload_n C dX11_row_21 rfl ?_
        refine s_bipush C dX11_row_22 (v := (60 : Int32)) (by decide) ?_
        refine s_icmp_le (tgt := 29) C dX11_row_24 (by decide) hf (fun hf => ?_) (fun hf => ?_)
        · refine s_iload_n C dX11_row_29 rfl ?_
          refine s_if_ge (tgt := 36) C dX11_row_30 (by decide) hf (fun hf => ?_) (fun hf => ?_)
          · refine s_aload C dX11_row_36 rfl ?_
            refine s_iload_n C dX11_row_38 rfl ?_
            refine s_iload_n C dX11_row_39 rfl ?_
            refine s_callV (rvf := fun _ => none) (st := []) (fr := 1) (lo := 24) (mc := 0) (ms := 0) C [7] wc_X7_holdRow wml_X11_442 wim_X7_holdRow wsl_7_X7_holdRow dX11_row_40 (As := [.inl a2, .inl a3]) rfl hf (fun x h' hF => c_X7_holdRow _ _ _ _ _ _ (x, h') hF) rfl (Nat.le_of_ble_eq_true rfl) (room_ok hX (Nat.le_of_ble_eq_true rfl) (Nat.le_of_ble_eq_true rfl)) (cell_ok hX (Nat.le_of_ble_eq_true rfl) (Nat.le_of_ble_eq_true rfl)) (fun _ h3 hf => ?_)
            refine s_iconst C dX11_row_43 (v := (1 : Int32)) (by decide) ?_
            exact s_ireturn C E dX11_row_44 hf (Nat.le_of_ble_eq_true rfl) (Nat.le_of_ble_eq_true rfl)
          · refine s_bipush C dX11_row_33 (v := (-14 : Int32)) (by decide) ?_
            exact s_ireturn C E dX11_row_35 hf (Nat.le_of_ble_eq_true rfl) (Nat.le_of_ble_eq_true rfl)
        · refine s_weak (lv' := [none, none, none, none, none]) trivial ?_
          exact k27 hf
/-- HillBoxes$Rules.isFull()Z -/
noncomputable def f_X6_isFull (o : Option Nat) (h : AH) : Option (Int32 × AH) :=
  fI h [6] o 1 fun v1 =>
  jn (fun (x2 : Int32) =>
    rz x2 h) fun j14 =>
  if v1 < (20 : Int32) then
    j14 (0 : Int32)
  else
    j14 (1 : Int32)
set_option maxRecDepth 100000 in
set_option maxHeartbeats 4000000 in
theorem c_X6_isFull (l : Launch) (D : DT) (o : Option Nat) (h : AH) (r : Int32 × AH) (hf : f_X6_isFull o h = some r) : CM l D yX6_isFull cX6_isFull 1 (some .boolean) 0 0 0 0 [.inr (.inr o)] h (some (.int r.1)) r.2 := by
  refine CM.of (by decide) (Nat.le_of_ble_eq_true rfl) (fun X hl C hD hX hnm E => ?_)
  subst hl
  subst hD
  have C : CX X RX6 cX6_isFull 1 := C
  show WW X h 0 0 0 [some (rB (xD X).1 o)] []
  unfold f_X6_isFull at hf
  refine s_aload_n C dX6_isFull_0 rfl ?_
  refine s_getI C fl_X6_45 dX6_isFull_1 hf (fun v1 hf => ?_)
  refine s_bipush C dX6_isFull_4 (v := (20 : Int32)) (by decide) ?_
  refine s_jn hf (fun j14 e14 hf => ?_)
  have k14 : ∀ (x2 : Int32), j14 x2 = some r → WW X h 0 0 14 [none] [.int x2] := by
    intro x2 hf
    rw [e14] at hf
    exact s_zreturn C E dX6_isFull_14 hf (Nat.le_of_ble_eq_true rfl) (Nat.le_of_ble_eq_true rfl)
  refine s_icmp_lt (tgt := 13) C dX6_isFull_6 (by decide) hf (fun hf => ?_) (fun hf => ?_)
  · refine s_iconst C dX6_isFull_13 (v := (0 : Int32)) (by decide) ?_
    refine s_weak (lv' := [none]) trivial ?_
    exact k14 _ hf
  · refine s_iconst C dX6_isFull_9 (v := (1 : Int32)) (by decide) ?_
    refine s_goto (tgt := 14) C dX6_isFull_10 (by decide) ?_
    refine s_weak (lv' := [none]) trivial ?_
    exact k14 _ hf
/-- HillBoxes$Tape.advance()V -/
noncomputable def f_X8_advance (o : Option Nat) (h : AH) : Option (Unit × AH) :=
  fI h [8] o 7 fun v1 =>
  jn (fun (h2 : AH) =>
    some ((), h2)) fun j40 =>
  if (160 : Int32) ≤ v1 then
    j40 h
  else
    fI h [8] o 6 fun v3 =>
    if v3 = 0 then
      j40 h
    else
      fI h [8] o 7 fun v4 =>
      pI h [8] o 7 (v4 + (1 : Int32)) fun h5 =>
      fR h5 [8] o 2 fun v6 =>
      fI h5 [8] o 7 fun v7 =>
      aI h5 20 v6 v7 fun v8 =>
      pI h5 [8] o 6 v8 fun h9 =>
      j40 h9
set_option maxRecDepth 100000 in
set_option maxHeartbeats 4000000 in
theorem c_X8_advance (l : Launch) (D : DT) (o : Option Nat) (h : AH) (r : Unit × AH) (hf : f_X8_advance o h = some r) : CM l D yX8_advance cX8_advance 1 none 0 0 0 0 [.inr (.inr o)] h none r.2 := by
  refine CM.of (by decide) (Nat.le_of_ble_eq_true rfl) (fun X hl C hD hX hnm E => ?_)
  subst hl
  subst hD
  have C : CX X RX8 cX8_advance 1 := C
  show WW X h 0 0 0 [some (rB (xD X).1 o)] []
  unfold f_X8_advance at hf
  refine s_aload_n C dX8_advance_0 rfl ?_
  refine s_getI C fl_X8_44 dX8_advance_1 hf (fun v1 hf => ?_)
  refine s_sipush C dX8_advance_4 (v := (160 : Int32)) (by decide) ?_
  refine s_jn hf (fun j40 e40 hf => ?_)
  have k40 : ∀ (h2 : AH), j40 h2 = some r → WW X h2 0 0 40 [none] [] := by
    intro h2 hf
    rw [e40] at hf
    exact s_return C E dX8_advance_40 hf (Nat.le_of_ble_eq_true rfl) (Nat.le_of_ble_eq_true rfl)
  refine s_icmp_ge (tgt := 40) C dX8_advance_7 (by decide) hf (fun hf => ?_) (fun hf => ?_)
  · refine s_weak (lv' := [none]) trivial ?_
    exact k40 _ hf
  · refine s_aload_n C dX8_advance_10 rfl ?_
    refine s_getI C fl_X8_47 dX8_advance_11 hf (fun v3 hf => ?_)
    refine s_if_eq (tgt := 40) C dX8_advance_14 (by decide) hf (fun hf => ?_) (fun hf => ?_)
    · refine s_weak (lv' := [none]) trivial ?_
      exact k40 _ hf
    · refine s_aload_n C dX8_advance_17 rfl ?_
      refine s_dup C dX8_advance_18 c1_r ?_
      refine s_getI C fl_X8_44 dX8_advance_19 hf (fun v4 hf => ?_)
      refine s_iconst C dX8_advance_22 (v := (1 : Int32)) (by decide) ?_
      refine s_iadd C dX8_advance_23 ?_
      refine s_putI C fl_X8_44 (by decide) dX8_advance_24 hf (fun h5 hf => ?_)
      refine s_aload_n C dX8_advance_27 rfl ?_
      refine s_aload_n C dX8_advance_28 rfl ?_
      refine s_getR C fl_X8_13 dX8_advance_29 hf (fun v6 hf => ?_)
      refine s_aload_n C dX8_advance_32 rfl ?_
      refine s_getI C fl_X8_44 dX8_advance_33 hf (fun v7 hf => ?_)
      refine s_iaload C dX8_advance_36 hf (fun v8 hf => ?_)
      refine s_putI C fl_X8_47 (by decide) dX8_advance_37 hf (fun h9 hf => ?_)
      refine s_weak (lv' := [none]) trivial ?_
      exact k40 _ hf
/-- HillBoxes$Tape.blame()V -/
noncomputable def f_X8_blame (o : Option Nat) (h : AH) : Option (Unit × AH) :=
  fI h [8] o 8 fun v1 =>
  jn (fun (h2 : AH) =>
    some ((), h2)) fun j20 =>
  if 0 ≤ v1 then
    j20 h
  else
    fR h [8] o 3 fun v3 =>
    fI h [8] o 7 fun v4 =>
    aI h 20 v3 v4 fun v5 =>
    pI h [8] o 8 v5 fun h6 =>
    j20 h6
set_option maxRecDepth 100000 in
set_option maxHeartbeats 4000000 in
theorem c_X8_blame (l : Launch) (D : DT) (o : Option Nat) (h : AH) (r : Unit × AH) (hf : f_X8_blame o h = some r) : CM l D yX8_blame cX8_blame 1 none 0 0 0 0 [.inr (.inr o)] h none r.2 := by
  refine CM.of (by decide) (Nat.le_of_ble_eq_true rfl) (fun X hl C hD hX hnm E => ?_)
  subst hl
  subst hD
  have C : CX X RX8 cX8_blame 1 := C
  show WW X h 0 0 0 [some (rB (xD X).1 o)] []
  unfold f_X8_blame at hf
  refine s_aload_n C dX8_blame_0 rfl ?_
  refine s_getI C fl_X8_41 dX8_blame_1 hf (fun v1 hf => ?_)
  refine s_jn hf (fun j20 e20 hf => ?_)
  have k20 : ∀ (h2 : AH), j20 h2 = some r → WW X h2 0 0 20 [none] [] := by
    intro h2 hf
    rw [e20] at hf
    exact s_return C E dX8_blame_20 hf (Nat.le_of_ble_eq_true rfl) (Nat.le_of_ble_eq_true rfl)
  refine s_if_ge (tgt := 20) C dX8_blame_4 (by decide) hf (fun hf => ?_) (fun hf => ?_)
  · refine s_weak (lv' := [none]) trivial ?_
    exact k20 _ hf
  · refine s_aload_n C dX8_blame_7 rfl ?_
    refine s_aload_n C dX8_blame_8 rfl ?_
    refine s_getR C fl_X8_16 dX8_blame_9 hf (fun v3 hf => ?_)
    refine s_aload_n C dX8_blame_12 rfl ?_
    refine s_getI C fl_X8_44 dX8_blame_13 hf (fun v4 hf => ?_)
    refine s_iaload C dX8_blame_16 hf (fun v5 hf => ?_)
    refine s_putI C fl_X8_41 (by decide) dX8_blame_17 hf (fun h6 hf => ?_)
    refine s_weak (lv' := [none]) trivial ?_
    exact k20 _ hf
/-- HillBoxes$Tape.emit(I)V -/
noncomputable def f_X8_emit (o : Option Nat) (a1 : Int32) (h : AH) : Option (Unit × AH) :=
  fI h [8] o 10 fun v1 =>
  jn (fun (h2 : AH) =>
    some ((), h2)) fun j30 =>
  if (161 : Int32) ≤ v1 then
    j30 h
  else
    fR h [8] o 9 fun v3 =>
    fI h [8] o 10 fun v4 =>
    bI h 20 v3 v4 a1 fun h5 =>
    fI h5 [8] o 10 fun v6 =>
    pI h5 [8] o 10 (v6 + (1 : Int32)) fun h7 =>
    j30 h7
set_option maxRecDepth 100000 in
set_option maxHeartbeats 4000000 in
theorem c_X8_emit (l : Launch) (D : DT) (o : Option Nat) (a1 : Int32) (h : AH) (r : Unit × AH) (hf : f_X8_emit o a1 h = some r) : CM l D yX8_emit cX8_emit 2 none 0 0 0 0 [.inr (.inr o), .inl a1] h none r.2 := by
  refine CM.of (by decide) (Nat.le_of_ble_eq_true rfl) (fun X hl C hD hX hnm E => ?_)
  subst hl
  subst hD
  have C : CX X RX8 cX8_emit 2 := C
  show WW X h 0 0 0 [some (rB (xD X).1 o), some (.int a1)] []
  unfold f_X8_emit at hf
  refine s_aload_n C dX8_emit_0 rfl ?_
  refine s_getI C fl_X8_29 dX8_emit_1 hf (fun v1 hf => ?_)
  refine s_sipush C dX8_emit_4 (v := (161 : Int32)) (by decide) ?_
  refine s_jn hf (fun j30 e30 hf => ?_)
  have k30 : ∀ (h2 : AH), j30 h2 = some r → WW X h2 0 0 30 [none, none] [] := by
    intro h2 hf
    rw [e30] at hf
    exact s_return C E dX8_emit_30 hf (Nat.le_of_ble_eq_true rfl) (Nat.le_of_ble_eq_true rfl)
  refine s_icmp_ge (tgt := 30) C dX8_emit_7 (by decide) hf (fun hf => ?_) (fun hf => ?_)
  · refine s_weak (lv' := [none, none]) trivial ?_
    exact k30 _ hf
  · refine s_aload_n C dX8_emit_10 rfl ?_
    refine s_getR C fl_X8_22 dX8_emit_11 hf (fun v3 hf => ?_)
    refine s_aload_n C dX8_emit_14 rfl ?_
    refine s_getI C fl_X8_29 dX8_emit_15 hf (fun v4 hf => ?_)
    refine s_iload_n C dX8_emit_18 rfl ?_
    refine s_iastore C dX8_emit_19 hf (fun h5 hf => ?_)
    refine s_aload_n C dX8_emit_20 rfl ?_
    refine s_dup C dX8_emit_21 c1_r ?_
    refine s_getI C fl_X8_29 dX8_emit_22 hf (fun v6 hf => ?_)
    refine s_iconst C dX8_emit_25 (v := (1 : Int32)) (by decide) ?_
    refine s_iadd C dX8_emit_26 ?_
    refine s_putI C fl_X8_29 (by decide) dX8_emit_27 hf (fun h7 hf => ?_)
    refine s_weak (lv' := [none, none]) trivial ?_
    exact k30 _ hf
/-- HillBoxes$Tape.expect(I)V -/
noncomputable def f_X8_expect (o : Option Nat) (a1 : Int32) (h : AH) : Option (Unit × AH) :=
  fI h [8] o 6 fun v1 =>
  jn (fun (h2 : AH) =>
    some ((), h2)) fun j26 =>
  jn (
    rO h [8] o <| cl (f_X8_blame o h) fun _ h3 =>
    j26 h3) fun j22 =>
  if v1 = a1 then
    fI h [8] o 8 fun v4 =>
    if 0 ≤ v4 then
      j22
    else
      rO h [8] o <| cl (f_X8_advance o h) fun _ h5 =>
      j26 h5
  else
    j22
set_option maxRecDepth 100000 in
set_option maxHeartbeats 4000000 in
theorem c_X8_expect (l : Launch) (D : DT) (o : Option Nat) (a1 : Int32) (h : AH) (r : Unit × AH) (hf : f_X8_expect o a1 h = some r) : CM l D yX8_expect cX8_expect 2 none 1 20 0 0 [.inr (.inr o), .inl a1] h none r.2 := by
  refine CM.of (by decide) (Nat.le_of_ble_eq_true rfl) (fun X hl C hD hX hnm E => ?_)
  subst hl
  subst hD
  have C : CX X RX8 cX8_expect 2 := C
  show WW X h 0 0 0 [some (rB (xD X).1 o), some (.int a1)] []
  unfold f_X8_expect at hf
  refine s_aload_n C dX8_expect_0 rfl ?_
  refine s_getI C fl_X8_47 dX8_expect_1 hf (fun v1 hf => ?_)
  refine s_iload_n C dX8_expect_4 rfl ?_
  refine s_jn hf (fun j26 e26 hf => ?_)
  have k26 : ∀ (h2 : AH), j26 h2 = some r → WW X h2 0 0 26 [none, none] [] := by
    intro h2 hf
    rw [e26] at hf
    exact s_return C E dX8_expect_26 hf (Nat.le_of_ble_eq_true rfl) (Nat.le_of_ble_eq_true rfl)
  refine s_jn hf (fun j22 e22 hf => ?_)
  have k22 : j22  = some r → WW X h 0 0 22 [some (rB (xD X).1 o), none] [] := by
    intro  hf
    rw [e22] at hf
    refine s_aload_n C dX8_expect_22 rfl ?_
    refine s_callV (rvf := fun _ => none) (st := []) (fr := 0) (lo := 0) (mc := 0) (ms := 0) C [8] wc_X8_blame wml_X8_56 wim_X8_blame wsl_8_X8_blame dX8_expect_23 (As := []) rfl hf (fun x h' hF => c_X8_blame _ _ _ _ (x, h') hF) rfl (Nat.le_of_ble_eq_true rfl) (room_ok hX (Nat.le_of_ble_eq_true rfl) (Nat.le_of_ble_eq_true rfl)) (cell_ok hX (Nat.le_of_ble_eq_true rfl) (Nat.le_of_ble_eq_true rfl)) (fun _ h3 hf => ?_)
    refine s_weak (lv' := [none, none]) trivial ?_
    exact k26 _ hf
  refine s_icmp_ne (tgt := 22) C dX8_expect_5 (by decide) hf (fun hf => ?_) (fun hf => ?_)
  · refine s_weak (lv' := [some (rB (xD X).1 o), none]) ⟨rfl, trivial⟩ ?_
    exact k22 hf
  · refine s_aload_n C dX8_expect_8 rfl ?_
    refine s_getI C fl_X8_41 dX8_expect_9 hf (fun v4 hf => ?_)
    refine s_if_ge (tgt := 22) C dX8_expect_12 (by decide) hf (fun hf => ?_) (fun hf => ?_)
    · refine s_weak (lv' := [some (rB (xD X).1 o), none]) ⟨rfl, trivial⟩ ?_
      exact k22 hf
    · refine s_aload_n C dX8_expect_15 rfl ?_
      refine s_callV (rvf := fun _ => none) (st := []) (fr := 0) (lo := 0) (mc := 0) (ms := 0) C [8] wc_X8_advance wml_X8_53 wim_X8_advance wsl_8_X8_advance dX8_expect_16 (As := []) rfl hf (fun x h' hF => c_X8_advance _ _ _ _ (x, h') hF) rfl (Nat.le_of_ble_eq_true rfl) (room_ok hX (Nat.le_of_ble_eq_true rfl) (Nat.le_of_ble_eq_true rfl)) (cell_ok hX (Nat.le_of_ble_eq_true rfl) (Nat.le_of_ble_eq_true rfl)) (fun _ h5 hf => ?_)
      refine s_goto (tgt := 26) C dX8_expect_19 (by decide) ?_
      refine s_weak (lv' := [none, none]) trivial ?_
      exact k26 _ hf
/-- HillBoxes$Tape.mayOpen(I)Z -/
noncomputable def f_X8_mayOpen (o : Option Nat) (a1 : Int32) (h : AH) : Option (Int32 × AH) :=
  jn (
    rO h [8] o <| cl (f_X8_blame o h) fun _ h1 =>
    rz (0 : Int32) h1) fun j13 =>
  if (6 : Int32) ≤ a1 then
    j13
  else
    fI h [8] o 8 fun v2 =>
    if v2 < 0 then
      rO h [8] o <| cl (f_X8_advance o h) fun _ h3 =>
      rz (1 : Int32) h3
    else
      j13
set_option maxRecDepth 100000 in
set_option maxHeartbeats 4000000 in
theorem c_X8_mayOpen (l : Launch) (D : DT) (o : Option Nat) (a1 : Int32) (h : AH) (r : Int32 × AH) (hf : f_X8_mayOpen o a1 h = some r) : CM l D yX8_mayOpen cX8_mayOpen 2 (some .boolean) 1 20 0 0 [.inr (.inr o), .inl a1] h (some (.int r.1)) r.2 := by
  refine CM.of (by decide) (Nat.le_of_ble_eq_true rfl) (fun X hl C hD hX hnm E => ?_)
  subst hl
  subst hD
  have C : CX X RX8 cX8_mayOpen 2 := C
  show WW X h 0 0 0 [some (rB (xD X).1 o), some (.int a1)] []
  unfold f_X8_mayOpen at hf
  refine s_iload_n C dX8_mayOpen_0 rfl ?_
  refine s_bipush C dX8_mayOpen_1 (v := (6 : Int32)) (by decide) ?_
  refine s_jn hf (fun j13 e13 hf => ?_)
  have k13 : j13  = some r → WW X h 0 0 13 [some (rB (xD X).1 o), none] [] := by
    intro  hf
    rw [e13] at hf
    refine s_aload_n C dX8_mayOpen_13 rfl ?_
    refine s_callV (rvf := fun _ => none) (st := []) (fr := 0) (lo := 0) (mc := 0) (ms := 0) C [8] wc_X8_blame wml_X8_56 wim_X8_blame wsl_8_X8_blame dX8_mayOpen_14 (As := []) rfl hf (fun x h' hF => c_X8_blame _ _ _ _ (x, h') hF) rfl (Nat.le_of_ble_eq_true rfl) (room_ok hX (Nat.le_of_ble_eq_true rfl) (Nat.le_of_ble_eq_true rfl)) (cell_ok hX (Nat.le_of_ble_eq_true rfl) (Nat.le_of_ble_eq_true rfl)) (fun _ h1 hf => ?_)
    refine s_iconst C dX8_mayOpen_17 (v := (0 : Int32)) (by decide) ?_
    exact s_zreturn C E dX8_mayOpen_18 hf (Nat.le_of_ble_eq_true rfl) (Nat.le_of_ble_eq_true rfl)
  refine s_icmp_ge (tgt := 13) C dX8_mayOpen_3 (by decide) hf (fun hf => ?_) (fun hf => ?_)
  · refine s_weak (lv' := [some (rB (xD X).1 o), none]) ⟨rfl, trivial⟩ ?_
    exact k13 hf
  · refine s_aload_n C dX8_mayOpen_6 rfl ?_
    refine s_getI C fl_X8_41 dX8_mayOpen_7 hf (fun v2 hf => ?_)
    refine s_if_lt (tgt := 19) C dX8_mayOpen_10 (by decide) hf (fun hf => ?_) (fun hf => ?_)
    · refine s_aload_n C dX8_mayOpen_19 rfl ?_
      refine s_callV (rvf := fun _ => none) (st := []) (fr := 0) (lo := 0) (mc := 0) (ms := 0) C [8] wc_X8_advance wml_X8_53 wim_X8_advance wsl_8_X8_advance dX8_mayOpen_20 (As := []) rfl hf (fun x h' hF => c_X8_advance _ _ _ _ (x, h') hF) rfl (Nat.le_of_ble_eq_true rfl) (room_ok hX (Nat.le_of_ble_eq_true rfl) (Nat.le_of_ble_eq_true rfl)) (cell_ok hX (Nat.le_of_ble_eq_true rfl) (Nat.le_of_ble_eq_true rfl)) (fun _ h3 hf => ?_)
      refine s_iconst C dX8_mayOpen_23 (v := (1 : Int32)) (by decide) ?_
      exact s_zreturn C E dX8_mayOpen_24 hf (Nat.le_of_ble_eq_true rfl) (Nat.le_of_ble_eq_true rfl)
    · refine s_weak (lv' := [some (rB (xD X).1 o), none]) ⟨rfl, trivial⟩ ?_
      exact k13 hf
/-- HillBoxes$Tape.readBoth(I)V, one turn -/
noncomputable def fb_X8_readBoth (g : Nat → Option Nat → Int32 → AH → Option (Unit × AH)) (o : Option Nat) (a1 : Int32) (h : AH) : Option (Unit × AH) :=
  rO h [8] o <| cl (g 1 o a1 h) fun _ h1 =>
  lp (fun _ _ => none) (fun (L7 : Int32 → AH → Option (Unit × AH)) (x2 : Int32) (h3 : AH) =>
    jn (
      some ((), h3)) fun j52 =>
    if (160 : Int32) ≤ x2 then
      j52
    else
      fI h3 [8] o 8 fun v4 =>
      if 0 ≤ v4 then
        j52
      else
        fI h3 [8] o 6 fun v5 =>
        if v5 = (312 : Int32) then
          rO h3 [8] o <| cl (f_X8_advance o h3) fun _ h6 =>
          rO h6 [8] o <| cl (g 1 o a1 h6) fun _ h7 =>
          rO h7 [8] o <| cl (f_X8_emit o (-22 : Int32) h7) fun _ h8 =>
          L7 (x2 + 1) h8
        else
          j52) lpN (0 : Int32) h1
/-- HillBoxes$Tape.readDenied(I)V, one turn -/
noncomputable def fb_X8_readDenied (g : Nat → Option Nat → Int32 → AH → Option (Unit × AH)) (o : Option Nat) (a1 : Int32) (h : AH) : Option (Unit × AH) :=
  lp (fun _ _ => none) (fun (L2 : Int32 → AH → Option (Unit × AH)) (x1 : Int32) (h2 : AH) =>
    jn (fun (h3 : AH) =>
      rO h3 [8] o <| cl (g 5 o (a1 + x1) h3) fun _ h4 =>
      fI h4 [8] o 6 fun v5 =>
      jn (fun (x6 : Int32) =>
        jn (fun (h7 : AH) =>
          lp (fun _ _ _ => none) (fun (L115 : Int32 → Int32 → AH → Option (Unit × AH)) (x8 : Int32) (x9 : Int32) (h10 : AH) =>
            if x8 ≤ x9 then
              some ((), h10)
            else
              rO h10 [8] o <| cl (f_X8_emit o (-32 : Int32) h10) fun _ h11 =>
              L115 x8 (x9 + 1) h11) lpN x1 (0 : Int32) h7) fun j112 =>
        if x6 = 0 then
          j112 h4
        else
          fI h4 [8] o 8 fun v12 =>
          if 0 ≤ v12 then
            j112 h4
          else
            rO h4 [8] o <| cl (f_X8_advance o h4) fun _ h13 =>
            rO h13 [8] o <| cl (g 5 o (a1 + x1) h13) fun _ h14 =>
            rO h14 [8] o <| cl (f_X8_emit o x6 h14) fun _ h15 =>
            j112 h15) fun j84 =>
      if v5 = (60 : Int32) then
        j84 (-23 : Int32)
      else
        fI h4 [8] o 6 fun v16 =>
        if v16 = (61 : Int32) then
          j84 (-24 : Int32)
        else
          fI h4 [8] o 6 fun v17 =>
          if v17 = (62 : Int32) then
            j84 (-25 : Int32)
          else
            j84 (0 : Int32)) fun j34 =>
    if (6 : Int32) < x1 then
      j34 h2
    else
      fI h2 [8] o 6 fun v18 =>
      if v18 = (313 : Int32) then
        rO h2 [8] o <| cl (f_X8_mayOpen o (a1 + x1) h2) fun v20 h19 =>
        if v20 = 0 then
          j34 h19
        else
          L2 (x1 + 1) h19
      else
        j34 h2) lpN (0 : Int32) h
/-- HillBoxes$Tape.readEither(I)V, one turn -/
noncomputable def fb_X8_readEither (g : Nat → Option Nat → Int32 → AH → Option (Unit × AH)) (o : Option Nat) (a1 : Int32) (h : AH) : Option (Unit × AH) :=
  rO h [8] o <| cl (g 0 o a1 h) fun _ h1 =>
  lp (fun _ _ => none) (fun (L7 : Int32 → AH → Option (Unit × AH)) (x2 : Int32) (h3 : AH) =>
    jn (
      some ((), h3)) fun j52 =>
    if (160 : Int32) ≤ x2 then
      j52
    else
      fI h3 [8] o 8 fun v4 =>
      if 0 ≤ v4 then
        j52
      else
        fI h3 [8] o 6 fun v5 =>
        if v5 = (311 : Int32) then
          rO h3 [8] o <| cl (f_X8_advance o h3) fun _ h6 =>
          rO h6 [8] o <| cl (g 0 o a1 h6) fun _ h7 =>
          rO h7 [8] o <| cl (f_X8_emit o (-21 : Int32) h7) fun _ h8 =>
          L7 (x2 + 1) h8
        else
          j52) lpN (0 : Int32) h1
/-- HillBoxes$Tape.readOne(I)V, one turn -/
noncomputable def fb_X8_readOne (g : Nat → Option Nat → Int32 → AH → Option (Unit × AH)) (o : Option Nat) (a1 : Int32) (h : AH) : Option (Unit × AH) :=
  lp (fun _ _ => none) (fun (L2 : Int32 → AH → Option (Unit × AH)) (x1 : Int32) (h2 : AH) =>
    jn (fun (h3 : AH) =>
      fI h3 [8] o 6 fun v4 =>
      jn (fun (h5 : AH) =>
        lp (fun _ _ _ => none) (fun (L112 : Int32 → Int32 → AH → Option (Unit × AH)) (x6 : Int32) (x7 : Int32) (h8 : AH) =>
          if x6 ≤ x7 then
            some ((), h8)
          else
            rO h8 [8] o <| cl (f_X8_emit o (-31 : Int32) h8) fun _ h9 =>
            L112 x6 (x7 + 1) h9) lpN x1 (0 : Int32) h5) fun j110 =>
      jn (
        fR h3 [8] o 4 fun v10 =>
        fI h3 [8] o 7 fun v11 =>
        aI h3 20 v10 v11 fun v12 =>
        rO h3 [8] o <| cl (f_X8_emit o v12 h3) fun _ h13 =>
        rO h13 [8] o <| cl (f_X8_advance o h13) fun _ h14 =>
        j110 h14) fun j49 =>
      if v4 = (2 : Int32) then
        j49
      else
        fI h3 [8] o 6 fun v15 =>
        if v15 = (3 : Int32) then
          j49
        else
          fI h3 [8] o 6 fun v16 =>
          jn (fun (h17 : AH) =>
            rO h17 [8] o <| cl (f_X8_blame o h17) fun _ h18 =>
            j110 h18) fun j106 =>
          if v16 = (40 : Int32) then
            rO h3 [8] o <| cl (f_X8_mayOpen o (a1 + x1) h3) fun v20 h19 =>
            if v20 = 0 then
              j106 h19
            else
              rO h19 [8] o <| cl (g 2 o ((a1 + x1) + (1 : Int32)) h19) fun _ h21 =>
              rO h21 [8] o <| cl (f_X8_expect o (41 : Int32) h21) fun _ h22 =>
              j110 h22
          else
            j106 h3) fun j33 =>
    if (6 : Int32) < x1 then
      j33 h2
    else
      fI h2 [8] o 6 fun v23 =>
      if v23 = (45 : Int32) then
        rO h2 [8] o <| cl (f_X8_mayOpen o (a1 + x1) h2) fun v25 h24 =>
        if v25 = 0 then
          j33 h24
        else
          L2 (x1 + 1) h24
      else
        j33 h2) lpN (0 : Int32) h
/-- HillBoxes$Tape.readProduct(I)V, one turn -/
noncomputable def fb_X8_readProduct (g : Nat → Option Nat → Int32 → AH → Option (Unit × AH)) (o : Option Nat) (a1 : Int32) (h : AH) : Option (Unit × AH) :=
  rO h [8] o <| cl (g 3 o a1 h) fun _ h1 =>
  lp (fun _ _ => none) (fun (L7 : Int32 → AH → Option (Unit × AH)) (x2 : Int32) (h3 : AH) =>
    jn (
      some ((), h3)) fun j99 =>
    if (160 : Int32) ≤ x2 then
      j99
    else
      fI h3 [8] o 8 fun v4 =>
      if 0 ≤ v4 then
        j99
      else
        fI h3 [8] o 6 fun v5 =>
        jn (
          fI h3 [8] o 6 fun v6 =>
          jn (fun (x7 : Int32) =>
            rO h3 [8] o <| cl (f_X8_advance o h3) fun _ h8 =>
            rO h8 [8] o <| cl (g 3 o a1 h8) fun _ h9 =>
            rO h9 [8] o <| cl (f_X8_emit o x7 h9) fun _ h10 =>
            L7 (x2 + 1) h10) fun j78 =>
          if v6 = (42 : Int32) then
            j78 (-28 : Int32)
          else
            fI h3 [8] o 6 fun v11 =>
            if v11 = (47 : Int32) then
              j78 (-29 : Int32)
            else
              j78 (-30 : Int32)) fun j48 =>
        if v5 = (42 : Int32) then
          j48
        else
          fI h3 [8] o 6 fun v12 =>
          if v12 = (47 : Int32) then
            j48
          else
            fI h3 [8] o 6 fun v13 =>
            if v13 = (37 : Int32) then
              j48
            else
              j99) lpN (0 : Int32) h1
/-- HillBoxes$Tape.readSum(I)V, one turn -/
noncomputable def fb_X8_readSum (g : Nat → Option Nat → Int32 → AH → Option (Unit × AH)) (o : Option Nat) (a1 : Int32) (h : AH) : Option (Unit × AH) :=
  rO h [8] o <| cl (g 4 o a1 h) fun _ h1 =>
  lp (fun _ _ => none) (fun (L7 : Int32 → AH → Option (Unit × AH)) (x2 : Int32) (h3 : AH) =>
    jn (
      some ((), h3)) fun j76 =>
    if (160 : Int32) ≤ x2 then
      j76
    else
      fI h3 [8] o 8 fun v4 =>
      if 0 ≤ v4 then
        j76
      else
        fI h3 [8] o 6 fun v5 =>
        jn (
          fI h3 [8] o 6 fun v6 =>
          jn (fun (x7 : Int32) =>
            rO h3 [8] o <| cl (f_X8_advance o h3) fun _ h8 =>
            rO h8 [8] o <| cl (g 4 o a1 h8) fun _ h9 =>
            rO h9 [8] o <| cl (f_X8_emit o x7 h9) fun _ h10 =>
            L7 (x2 + 1) h10) fun j55 =>
          if v6 = (43 : Int32) then
            j55 (-26 : Int32)
          else
            j55 (-27 : Int32)) fun j39 =>
        if v5 = (43 : Int32) then
          j39
        else
          fI h3 [8] o 6 fun v11 =>
          if v11 = (45 : Int32) then
            j39
          else
            j76) lpN (0 : Int32) h1
noncomputable def G_X8_readBoth : Nat → Nat → Option Nat → Int32 → AH → Option (Unit × AH)
  | 0 => fun _ _ _ _ => none
  | n + 1 => fun t p0 p1 h => if t = 0 then fb_X8_readBoth (G_X8_readBoth n) p0 p1 h else if t = 1 then fb_X8_readDenied (G_X8_readBoth n) p0 p1 h else if t = 2 then fb_X8_readEither (G_X8_readBoth n) p0 p1 h else if t = 3 then fb_X8_readOne (G_X8_readBoth n) p0 p1 h else if t = 4 then fb_X8_readProduct (G_X8_readBoth n) p0 p1 h else fb_X8_readSum (G_X8_readBoth n) p0 p1 h
theorem eq_G_X8_readBoth (n t : Nat) (p0 : Option Nat) (p1 : Int32) (h : AH) : G_X8_readBoth (n + 1) t p0 p1 h = (if t = 0 then fb_X8_readBoth (G_X8_readBoth n) p0 p1 h else if t = 1 then fb_X8_readDenied (G_X8_readBoth n) p0 p1 h else if t = 2 then fb_X8_readEither (G_X8_readBoth n) p0 p1 h else if t = 3 then fb_X8_readOne (G_X8_readBoth n) p0 p1 h else if t = 4 then fb_X8_readProduct (G_X8_readBoth n) p0 p1 h else fb_X8_readSum (G_X8_readBoth n) p0 p1 h) := by first | rfl | rw [G_X8_readBoth]
noncomputable def f_X8_readBoth (o : Option Nat) (a1 : Int32) (h : AH) : Option (Unit × AH) := G_X8_readBoth (opq 100) 0 o a1 h
noncomputable def f_X8_readDenied (o : Option Nat) (a1 : Int32) (h : AH) : Option (Unit × AH) := G_X8_readBoth (opq 100) 1 o a1 h
noncomputable def f_X8_readEither (o : Option Nat) (a1 : Int32) (h : AH) : Option (Unit × AH) := G_X8_readBoth (opq 100) 2 o a1 h
noncomputable def f_X8_readOne (o : Option Nat) (a1 : Int32) (h : AH) : Option (Unit × AH) := G_X8_readBoth (opq 100) 3 o a1 h
noncomputable def f_X8_readProduct (o : Option Nat) (a1 : Int32) (h : AH) : Option (Unit × AH) := G_X8_readBoth (opq 100) 4 o a1 h
noncomputable def f_X8_readSum (o : Option Nat) (a1 : Int32) (h : AH) : Option (Unit × AH) := G_X8_readBoth (opq 100) 5 o a1 h
def PG_X8_readBoth (l : Launch) (D : DT) (n : Nat) : Prop := (∀ (p0 : Option Nat) (p1 : Int32) (h : AH) (r : Unit × AH), G_X8_readBoth n 0 p0 p1 h = some r → CM l D yX8_readBoth cX8_readBoth 3 none (2 + n) (41 + 60 * n) 0 0 [.inr (.inr p0), .inl p1] h none r.2) ∧ (∀ (p0 : Option Nat) (p1 : Int32) (h : AH) (r : Unit × AH), G_X8_readBoth n 1 p0 p1 h = some r → CM l D yX8_readDenied cX8_readDenied 5 none (2 + n) (41 + 60 * n) 0 0 [.inr (.inr p0), .inl p1] h none r.2) ∧ (∀ (p0 : Option Nat) (p1 : Int32) (h : AH) (r : Unit × AH), G_X8_readBoth n 2 p0 p1 h = some r → CM l D yX8_readEither cX8_readEither 3 none (2 + n) (41 + 60 * n) 0 0 [.inr (.inr p0), .inl p1] h none r.2) ∧ (∀ (p0 : Option Nat) (p1 : Int32) (h : AH) (r : Unit × AH), G_X8_readBoth n 3 p0 p1 h = some r → CM l D yX8_readOne cX8_readOne 4 none (2 + n) (41 + 60 * n) 0 0 [.inr (.inr p0), .inl p1] h none r.2) ∧ (∀ (p0 : Option Nat) (p1 : Int32) (h : AH) (r : Unit × AH), G_X8_readBoth n 4 p0 p1 h = some r → CM l D yX8_readProduct cX8_readProduct 4 none (2 + n) (41 + 60 * n) 0 0 [.inr (.inr p0), .inl p1] h none r.2) ∧ (∀ (p0 : Option Nat) (p1 : Int32) (h : AH) (r : Unit × AH), G_X8_readBoth n 5 p0 p1 h = some r → CM l D yX8_readSum cX8_readSum 4 none (2 + n) (41 + 60 * n) 0 0 [.inr (.inr p0), .inl p1] h none r.2)
set_option maxRecDepth 100000 in
set_option maxHeartbeats 4000000 in
theorem cs_X8_readBoth (l : Launch) (D : DT) (nS : Nat) (ih : PG_X8_readBoth l D nS) : ∀ (p0 : Option Nat) (p1 : Int32) (h : AH) (r : Unit × AH), G_X8_readBoth (nS + 1) 0 p0 p1 h = some r → CM l D yX8_readBoth cX8_readBoth 3 none (2 + (nS + 1)) (41 + 60 * (nS + 1)) 0 0 [.inr (.inr p0), .inl p1] h none r.2 := by
  unfold PG_X8_readBoth at ih
  intro o a1 h r hf
  rw [eq_G_X8_readBoth] at hf
  have hf : fb_X8_readBoth (G_X8_readBoth nS) o a1 h = some r := (if_pos rfl).symm.trans hf
  refine CM.of (by decide) (Nat.le_of_ble_eq_true rfl) (fun X hl C hD hX hnm E => ?_)
  subst hl
  subst hD
  have C : CX X RX8 cX8_readBoth 3 := C
  show WW X h 0 0 0 [some (rB (xD X).1 o), some (.int a1), none] []
  unfold fb_X8_readBoth at hf
  refine s_aload_n C dX8_readBoth_0 rfl ?_
  refine s_iload_n C dX8_readBoth_1 rfl ?_
  refine s_callV (rvf := fun _ => none) (st := []) (fr := (2 + nS)) (lo := (41 + 60 * nS)) (mc := 0) (ms := 0) C [8] wc_X8_readDenied wml_X8_72 wim_X8_readDenied wsl_8_X8_readDenied dX8_readBoth_2 (As := [.inl a1]) rfl hf (fun x h' hF => ih.2.1 o a1 h (x, h') hF) rfl (Nat.le_of_ble_eq_true rfl) (room_ok hX (by omega) (by omega)) (cell_ok hX (Nat.le_of_ble_eq_true rfl) (Nat.le_of_ble_eq_true rfl)) (fun _ h1 hf => ?_)
  refine s_iconst C dX8_readBoth_5 (v := (0 : Int32)) (by decide) ?_
  refine s_istore_n C dX8_readBoth_6 (by decide) (nc_i rfl) (lv' := [some (rB (xD X).1 o), some (.int a1), some (.int (0 : Int32))]) rfl ?_
  refine s_lp2 hf (fun G7 z7 q7 hf => ?_)
  have k7 : ∀ (n : Nat) (x2 : Int32) (h3 : AH), G7 n x2 h3 = some r → WW X h3 0 0 7 [some (rB (xD X).1 o), some (.int a1), some (.int x2)] [] := by
    intro n
    induction n with
    | zero =>
      intro x2 h3 hf
      rw [z7] at hf
      cases hf
    | succ n ih7 =>
      intro x2 h3 hf
      have hf := (q7 n x2 h3).symm.trans hf
      refine s_iload_n C dX8_readBoth_7 rfl ?_
      refine s_sipush C dX8_readBoth_8 (v := (160 : Int32)) (by decide) ?_
      refine s_jn hf (fun j52 e52 hf => ?_)
      have k52 : j52  = some r → WW X h3 0 0 52 [none, none, none] [] := by
        intro  hf
        rw [e52] at hf
        exact s_return C E dX8_readBoth_52 hf (Nat.le_of_ble_eq_true rfl) (Nat.le_of_ble_eq_true rfl)
      refine s_icmp_ge (tgt := 52) C dX8_readBoth_11 (by decide) hf (fun hf => ?_) (fun hf => ?_)
      · refine s_weak (lv' := [none, none, none]) trivial ?_
        exact k52 hf
      · refine s_aload_n C dX8_readBoth_14 rfl ?_
        refine s_getI C fl_X8_41 dX8_readBoth_15 hf (fun v4 hf => ?_)
        refine s_if_ge (tgt := 52) C dX8_readBoth_18 (by decide) hf (fun hf => ?_) (fun hf => ?_)
        · refine s_weak (lv' := [none, none, none]) trivial ?_
          exact k52 hf
        · refine s_aload_n C dX8_readBoth_21 rfl ?_
          refine s_getI C fl_X8_47 dX8_readBoth_22 hf (fun v5 hf => ?_)
          refine s_sipush C dX8_readBoth_25 (v := (312 : Int32)) (by decide) ?_
          refine s_icmp_ne (tgt := 52) C dX8_readBoth_28 (by decide) hf (fun hf => ?_) (fun hf => ?_)
          · refine s_weak (lv' := [none, none, none]) trivial ?_
            exact k52 hf
          · refine s_aload_n C dX8_readBoth_31 rfl ?_
            refine s_callV (rvf := fun _ => none) (st := []) (fr := 0) (lo := 0) (mc := 0) (ms := 0) C [8] wc_X8_advance wml_X8_53 wim_X8_advance wsl_8_X8_advance dX8_readBoth_32 (As := []) rfl hf (fun x h' hF => c_X8_advance _ _ _ _ (x, h') hF) rfl (Nat.le_of_ble_eq_true rfl) (room_ok hX (by omega) (by omega)) (cell_ok hX (Nat.le_of_ble_eq_true rfl) (Nat.le_of_ble_eq_true rfl)) (fun _ h6 hf => ?_)
            refine s_aload_n C dX8_readBoth_35 rfl ?_
            refine s_iload_n C dX8_readBoth_36 rfl ?_
            refine s_callV (rvf := fun _ => none) (st := []) (fr := (2 + nS)) (lo := (41 + 60 * nS)) (mc := 0) (ms := 0) C [8] wc_X8_readDenied wml_X8_72 wim_X8_readDenied wsl_8_X8_readDenied dX8_readBoth_37 (As := [.inl a1]) rfl hf (fun x h' hF => ih.2.1 o a1 h6 (x, h') hF) rfl (Nat.le_of_ble_eq_true rfl) (room_ok hX (by omega) (by omega)) (cell_ok hX (Nat.le_of_ble_eq_true rfl) (Nat.le_of_ble_eq_true rfl)) (fun _ h7 hf => ?_)
            refine s_aload_n C dX8_readBoth_40 rfl ?_
            refine s_bipush C dX8_readBoth_41 (v := (-22 : Int32)) (by decide) ?_
            refine s_callV (rvf := fun _ => none) (st := []) (fr := 0) (lo := 0) (mc := 0) (ms := 0) C [8] wc_X8_emit wml_X8_63 wim_X8_emit wsl_8_X8_emit dX8_readBoth_43 (As := [.inl (-22 : Int32)]) rfl hf (fun x h' hF => c_X8_emit _ _ _ _ _ (x, h') hF) rfl (Nat.le_of_ble_eq_true rfl) (room_ok hX (by omega) (by omega)) (cell_ok hX (Nat.le_of_ble_eq_true rfl) (Nat.le_of_ble_eq_true rfl)) (fun _ h8 hf => ?_)
            refine s_iinc C dX8_readBoth_46 (v := (x2 + 1)) rfl rfl (by decide) (nc_i rfl) (lv' := [some (rB (xD X).1 o), some (.int a1), some (.int (x2 + 1))]) rfl ?_
            refine s_goto (tgt := 7) C dX8_readBoth_49 (by decide) ?_
            exact ih7 _ _ hf
  exact k7 lpN _ _ hf
set_option maxRecDepth 100000 in
set_option maxHeartbeats 4000000 in
theorem cs_X8_readDenied (l : Launch) (D : DT) (nS : Nat) (ih : PG_X8_readBoth l D nS) : ∀ (p0 : Option Nat) (p1 : Int32) (h : AH) (r : Unit × AH), G_X8_readBoth (nS + 1) 1 p0 p1 h = some r → CM l D yX8_readDenied cX8_readDenied 5 none (2 + (nS + 1)) (41 + 60 * (nS + 1)) 0 0 [.inr (.inr p0), .inl p1] h none r.2 := by
  unfold PG_X8_readBoth at ih
  intro o a1 h r hf
  rw [eq_G_X8_readBoth] at hf
  have hf : fb_X8_readDenied (G_X8_readBoth nS) o a1 h = some r := (if_pos rfl).symm.trans ((if_neg (by decide)).symm.trans (hf))
  refine CM.of (by decide) (Nat.le_of_ble_eq_true rfl) (fun X hl C hD hX hnm E => ?_)
  subst hl
  subst hD
  have C : CX X RX8 cX8_readDenied 5 := C
  show WW X h 0 0 0 [some (rB (xD X).1 o), some (.int a1), none, none, none] []
  unfold fb_X8_readDenied at hf
  refine s_iconst C dX8_readDenied_0 (v := (0 : Int32)) (by decide) ?_
  refine s_istore_n C dX8_readDenied_1 (by decide) (nc_i rfl) (lv' := [some (rB (xD X).1 o), some (.int a1), some (.int (0 : Int32)), none, none]) rfl ?_
  refine s_lp2 hf (fun G2 z2 q2 hf => ?_)
  have k2 : ∀ (n : Nat) (x1 : Int32) (h2 : AH), G2 n x1 h2 = some r → WW X h2 0 0 2 [some (rB (xD X).1 o), some (.int a1), some (.int x1), none, none] [] := by
    intro n
    induction n with
    | zero =>
      intro x1 h2 hf
      rw [z2] at hf
      cases hf
    | succ n ih2 =>
      intro x1 h2 hf
      have hf := (q2 n x1 h2).symm.trans hf
      refine s_iload_n C dX8_readDenied_2 rfl ?_
      refine s_bipush C dX8_readDenied_3 (v := (6 : Int32)) (by decide) ?_
      refine s_jn hf (fun j34 e34 hf => ?_)
      have k34 : ∀ (h3 : AH), j34 h3 = some r → WW X h3 0 0 34 [some (rB (xD X).1 o), some (.int a1), some (.int x1), none, none] [] := by
        intro h3 hf
        rw [e34] at hf
        refine s_aload_n C dX8_readDenied_34 rfl ?_
        refine s_iload_n C dX8_readDenied_35 rfl ?_
        refine s_iload_n C dX8_readDenied_36 rfl ?_
        refine s_iadd C dX8_readDenied_37 ?_
        refine s_callV (rvf := fun _ => none) (st := []) (fr := (2 + nS)) (lo := (41 + 60 * nS)) (mc := 0) (ms := 0) C [8] wc_X8_readSum wml_X8_79 wim_X8_readSum wsl_8_X8_readSum dX8_readDenied_38 (As := [.inl (a1 + x1)]) rfl hf (fun x h' hF => ih.2.2.2.2.2 o (a1 + x1) h3 (x, h') hF) rfl (Nat.le_of_ble_eq_true rfl) (room_ok hX (by omega) (by omega)) (cell_ok hX (Nat.le_of_ble_eq_true rfl) (Nat.le_of_ble_eq_true rfl)) (fun _ h4 hf => ?_)
        refine s_aload_n C dX8_readDenied_41 rfl ?_
        refine s_getI C fl_X8_47 dX8_readDenied_42 hf (fun v5 hf => ?_)
        refine s_bipush C dX8_readDenied_45 (v := (60 : Int32)) (by decide) ?_
        refine s_jn hf (fun j84 e84 hf => ?_)
        have k84 : ∀ (x6 : Int32), j84 x6 = some r → WW X h4 0 0 84 [some (rB (xD X).1 o), some (.int a1), some (.int x1), none, none] [.int x6] := by
          intro x6 hf
          rw [e84] at hf
          refine s_istore_n C dX8_readDenied_84 (by decide) (nc_i rfl) (lv' := [some (rB (xD X).1 o), some (.int a1), some (.int x1), some (.int x6), none]) rfl ?_
          refine s_iload_n C dX8_readDenied_85 rfl ?_
          refine s_jn hf (fun j112 e112 hf => ?_)
          have k112 : ∀ (h7 : AH), j112 h7 = some r → WW X h7 0 0 112 [some (rB (xD X).1 o), none, some (.int x1), none, none] [] := by
            intro h7 hf
            rw [e112] at hf
            refine s_iconst C dX8_readDenied_112 (v := (0 : Int32)) (by decide) ?_
            refine s_istore C dX8_readDenied_113 (by decide) (nc_n rfl) (lv' := [some (rB (xD X).1 o), none, some (.int x1), none, some (.int (0 : Int32))]) rfl ?_
            refine s_lp3 hf (fun G115 z115 q115 hf => ?_)
            have k115 : ∀ (n : Nat) (x8 : Int32) (x9 : Int32) (h10 : AH), G115 n x8 x9 h10 = some r → WW X h10 0 0 115 [some (rB (xD X).1 o), none, some (.int x8), none, some (.int x9)] [] := by
              intro n
              induction n with
              | zero =>
                intro x8 x9 h10 hf
                rw [z115] at hf
                cases hf
              | succ n ih115 =>
                intro x8 x9 h10 hf
                have hf := (q115 n x8 x9 h10).symm.trans hf
                refine s_iload C dX8_readDenied_115 rfl ?_
                refine s_iload_n C dX8_readDenied_117 rfl ?_
                refine s_icmp_ge (tgt := 133) C dX8_readDenied_118 (by decide) hf (fun hf => ?_) (fun hf => ?_)
                · exact s_return C E dX8_readDenied_133 hf (Nat.le_of_ble_eq_true rfl) (Nat.le_of_ble_eq_true rfl)
                · refine s_aload_n C dX8_readDenied_121 rfl ?_
                  refine s_bipush C dX8_readDenied_122 (v := (-32 : Int32)) (by decide) ?_
                  refine s_callV (rvf := fun _ => none) (st := []) (fr := 0) (lo := 0) (mc := 0) (ms := 0) C [8] wc_X8_emit wml_X8_63 wim_X8_emit wsl_8_X8_emit dX8_readDenied_124 (As := [.inl (-32 : Int32)]) rfl hf (fun x h' hF => c_X8_emit _ _ _ _ _ (x, h') hF) rfl (Nat.le_of_ble_eq_true rfl) (room_ok hX (by omega) (by omega)) (cell_ok hX (Nat.le_of_ble_eq_true rfl) (Nat.le_of_ble_eq_true rfl)) (fun _ h11 hf => ?_)
                  refine s_iinc C dX8_readDenied_127 (v := (x9 + 1)) rfl rfl (by decide) (nc_n rfl) (lv' := [some (rB (xD X).1 o), none, some (.int x8), none, some (.int (x9 + 1))]) rfl ?_
                  refine s_goto (tgt := 115) C dX8_readDenied_130 (by decide) ?_
                  exact ih115 _ _ _ hf
            exact k115 lpN _ _ _ hf
          refine s_if_eq (tgt := 112) C dX8_readDenied_86 (by decide) hf (fun hf => ?_) (fun hf => ?_)
          · refine s_weak (lv' := [some (rB (xD X).1 o), none, some (.int x1), none, none]) ⟨rfl, ⟨rfl, trivial⟩⟩ ?_
            exact k112 _ hf
          · refine s_aload_n C dX8_readDenied_89 rfl ?_
            refine s_getI C fl_X8_41 dX8_readDenied_90 hf (fun v12 hf => ?_)
            refine s_if_ge (tgt := 112) C dX8_readDenied_93 (by decide) hf (fun hf => ?_) (fun hf => ?_)
            · refine s_weak (lv' := [some (rB (xD X).1 o), none, some (.int x1), none, none]) ⟨rfl, ⟨rfl, trivial⟩⟩ ?_
              exact k112 _ hf
            · refine s_aload_n C dX8_readDenied_96 rfl ?_
              refine s_callV (rvf := fun _ => none) (st := []) (fr := 0) (lo := 0) (mc := 0) (ms := 0) C [8] wc_X8_advance wml_X8_53 wim_X8_advance wsl_8_X8_advance dX8_readDenied_97 (As := []) rfl hf (fun x h' hF => c_X8_advance _ _ _ _ (x, h') hF) rfl (Nat.le_of_ble_eq_true rfl) (room_ok hX (by omega) (by omega)) (cell_ok hX (Nat.le_of_ble_eq_true rfl) (Nat.le_of_ble_eq_true rfl)) (fun _ h13 hf => ?_)
              refine s_aload_n C dX8_readDenied_100 rfl ?_
              refine s_iload_n C dX8_readDenied_101 rfl ?_
              refine s_iload_n C dX8_readDenied_102 rfl ?_
              refine s_iadd C dX8_readDenied_103 ?_
              refine s_callV (rvf := fun _ => none) (st := []) (fr := (2 + nS)) (lo := (41 + 60 * nS)) (mc := 0) (ms := 0) C [8] wc_X8_readSum wml_X8_79 wim_X8_readSum wsl_8_X8_readSum dX8_readDenied_104 (As := [.inl (a1 + x1)]) rfl hf (fun x h' hF => ih.2.2.2.2.2 o (a1 + x1) h13 (x, h') hF) rfl (Nat.le_of_ble_eq_true rfl) (room_ok hX (by omega) (by omega)) (cell_ok hX (Nat.le_of_ble_eq_true rfl) (Nat.le_of_ble_eq_true rfl)) (fun _ h14 hf => ?_)
              refine s_aload_n C dX8_readDenied_107 rfl ?_
              refine s_iload_n C dX8_readDenied_108 rfl ?_
              refine s_callV (rvf := fun _ => none) (st := []) (fr := 0) (lo := 0) (mc := 0) (ms := 0) C [8] wc_X8_emit wml_X8_63 wim_X8_emit wsl_8_X8_emit dX8_readDenied_109 (As := [.inl x6]) rfl hf (fun x h' hF => c_X8_emit _ _ _ _ _ (x, h') hF) rfl (Nat.le_of_ble_eq_true rfl) (room_ok hX (by omega) (by omega)) (cell_ok hX (Nat.le_of_ble_eq_true rfl) (Nat.le_of_ble_eq_true rfl)) (fun _ h15 hf => ?_)
              refine s_weak (lv' := [some (rB (xD X).1 o), none, some (.int x1), none, none]) ⟨rfl, ⟨rfl, trivial⟩⟩ ?_
              exact k112 _ hf
        refine s_icmp_ne (tgt := 55) C dX8_readDenied_47 (by decide) hf (fun hf => ?_) (fun hf => ?_)
        · refine s_aload_n C dX8_readDenied_55 rfl ?_
          refine s_getI C fl_X8_47 dX8_readDenied_56 hf (fun v16 hf => ?_)
          refine s_bipush C dX8_readDenied_59 (v := (61 : Int32)) (by decide) ?_
          refine s_icmp_ne (tgt := 69) C dX8_readDenied_61 (by decide) hf (fun hf => ?_) (fun hf => ?_)
          · refine s_aload_n C dX8_readDenied_69 rfl ?_
            refine s_getI C fl_X8_47 dX8_readDenied_70 hf (fun v17 hf => ?_)
            refine s_bipush C dX8_readDenied_73 (v := (62 : Int32)) (by decide) ?_
            refine s_icmp_ne (tgt := 83) C dX8_readDenied_75 (by decide) hf (fun hf => ?_) (fun hf => ?_)
            · refine s_iconst C dX8_readDenied_83 (v := (0 : Int32)) (by decide) ?_
              exact k84 _ hf
            · refine s_bipush C dX8_readDenied_78 (v := (-25 : Int32)) (by decide) ?_
              refine s_goto (tgt := 84) C dX8_readDenied_80 (by decide) ?_
              exact k84 _ hf
          · refine s_bipush C dX8_readDenied_64 (v := (-24 : Int32)) (by decide) ?_
            refine s_goto (tgt := 84) C dX8_readDenied_66 (by decide) ?_
            exact k84 _ hf
        · refine s_bipush C dX8_readDenied_50 (v := (-23 : Int32)) (by decide) ?_
          refine s_goto (tgt := 84) C dX8_readDenied_52 (by decide) ?_
          exact k84 _ hf
      refine s_icmp_gt (tgt := 34) C dX8_readDenied_5 (by decide) hf (fun hf => ?_) (fun hf => ?_)
      · exact k34 _ hf
      · refine s_aload_n C dX8_readDenied_8 rfl ?_
        refine s_getI C fl_X8_47 dX8_readDenied_9 hf (fun v18 hf => ?_)
        refine s_sipush C dX8_readDenied_12 (v := (313 : Int32)) (by decide) ?_
        refine s_icmp_ne (tgt := 34) C dX8_readDenied_15 (by decide) hf (fun hf => ?_) (fun hf => ?_)
        · exact k34 _ hf
        · refine s_aload_n C dX8_readDenied_18 rfl ?_
          refine s_iload_n C dX8_readDenied_19 rfl ?_
          refine s_iload_n C dX8_readDenied_20 rfl ?_
          refine s_iadd C dX8_readDenied_21 ?_
          refine s_callV (rvf := fun x => some (.int x)) (st := []) (fr := 1) (lo := 20) (mc := 0) (ms := 0) C [8] wc_X8_mayOpen wml_X8_75 wim_X8_mayOpen wsl_8_X8_mayOpen dX8_readDenied_22 (As := [.inl (a1 + x1)]) rfl hf (fun x h' hF => c_X8_mayOpen _ _ _ _ _ (x, h') hF) rfl (Nat.le_of_ble_eq_true rfl) (room_ok hX (by omega) (by omega)) (cell_ok hX (Nat.le_of_ble_eq_true rfl) (Nat.le_of_ble_eq_true rfl)) (fun v20 h19 hf => ?_)
          refine s_if_eq (tgt := 34) C dX8_readDenied_25 (by decide) hf (fun hf => ?_) (fun hf => ?_)
          · exact k34 _ hf
          · refine s_iinc C dX8_readDenied_28 (v := (x1 + 1)) rfl rfl (by decide) (nc_i rfl) (lv' := [some (rB (xD X).1 o), some (.int a1), some (.int (x1 + 1)), none, none]) rfl ?_
            refine s_goto (tgt := 2) C dX8_readDenied_31 (by decide) ?_
            exact ih2 _ _ hf
  exact k2 lpN _ _ hf
set_option maxRecDepth 100000 in
set_option maxHeartbeats 4000000 in
theorem cs_X8_readEither (l : Launch) (D : DT) (nS : Nat) (ih : PG_X8_readBoth l D nS) : ∀ (p0 : Option Nat) (p1 : Int32) (h : AH) (r : Unit × AH), G_X8_readBoth (nS + 1) 2 p0 p1 h = some r → CM l D yX8_readEither cX8_readEither 3 none (2 + (nS + 1)) (41 + 60 * (nS + 1)) 0 0 [.inr (.inr p0), .inl p1] h none r.2 := by
  unfold PG_X8_readBoth at ih
  intro o a1 h r hf
  rw [eq_G_X8_readBoth] at hf
  have hf : fb_X8_readEither (G_X8_readBoth nS) o a1 h = some r := (if_pos rfl).symm.trans ((if_neg (by decide)).symm.trans ((if_neg (by decide)).symm.trans (hf)))
  refine CM.of (by decide) (Nat.le_of_ble_eq_true rfl) (fun X hl C hD hX hnm E => ?_)
  subst hl
  subst hD
  have C : CX X RX8 cX8_readEither 3 := C
  show WW X h 0 0 0 [some (rB (xD X).1 o), some (.int a1), none] []
  unfold fb_X8_readEither at hf
  refine s_aload_n C dX8_readEither_0 rfl ?_
  refine s_iload_n C dX8_readEither_1 rfl ?_
  refine s_callV (rvf := fun _ => none) (st := []) (fr := (2 + nS)) (lo := (41 + 60 * nS)) (mc := 0) (ms := 0) C [8] wc_X8_readBoth wml_X8_69 wim_X8_readBoth wsl_8_X8_readBoth dX8_readEither_2 (As := [.inl a1]) rfl hf (fun x h' hF => ih.1 o a1 h (x, h') hF) rfl (Nat.le_of_ble_eq_true rfl) (room_ok hX (by omega) (by omega)) (cell_ok hX (Nat.le_of_ble_eq_true rfl) (Nat.le_of_ble_eq_true rfl)) (fun _ h1 hf => ?_)
  refine s_iconst C dX8_readEither_5 (v := (0 : Int32)) (by decide) ?_
  refine s_istore_n C dX8_readEither_6 (by decide) (nc_i rfl) (lv' := [some (rB (xD X).1 o), some (.int a1), some (.int (0 : Int32))]) rfl ?_
  refine s_lp2 hf (fun G7 z7 q7 hf => ?_)
  have k7 : ∀ (n : Nat) (x2 : Int32) (h3 : AH), G7 n x2 h3 = some r → WW X h3 0 0 7 [some (rB (xD X).1 o), some (.int a1), some (.int x2)] [] := by
    intro n
    induction n with
    | zero =>
      intro x2 h3 hf
      rw [z7] at hf
      cases hf
    | succ n ih7 =>
      intro x2 h3 hf
      have hf := (q7 n x2 h3).symm.trans hf
      refine s_iload_n C dX8_readEither_7 rfl ?_
      refine s_sipush C dX8_readEither_8 (v := (160 : Int32)) (by decide) ?_
      refine s_jn hf (fun j52 e52 hf => ?_)
      have k52 : j52  = some r → WW X h3 0 0 52 [none, none, none] [] := by
        intro  hf
        rw [e52] at hf
        exact s_return C E dX8_readEither_52 hf (Nat.le_of_ble_eq_true rfl) (Nat.le_of_ble_eq_true rfl)
      refine s_icmp_ge (tgt := 52) C dX8_readEither_11 (by decide) hf (fun hf => ?_) (fun hf => ?_)
      · refine s_weak (lv' := [none, none, none]) trivial ?_
        exact k52 hf
      · refine s_aload_n C dX8_readEither_14 rfl ?_
        refine s_getI C fl_X8_41 dX8_readEither_15 hf (fun v4 hf => ?_)
        refine s_if_ge (tgt := 52) C dX8_readEither_18 (by decide) hf (fun hf => ?_) (fun hf => ?_)
        · refine s_weak (lv' := [none, none, none]) trivial ?_
          exact k52 hf
        · refine s_aload_n C dX8_readEither_21 rfl ?_
          refine s_getI C fl_X8_47 dX8_readEither_22 hf (fun v5 hf => ?_)
          refine s_sipush C dX8_readEither_25 (v := (311 : Int32)) (by decide) ?_
          refine s_icmp_ne (tgt := 52) C dX8_readEither_28 (by decide) hf (fun hf => ?_) (fun hf => ?_)
          · refine s_weak (lv' := [none, none, none]) trivial ?_
            exact k52 hf
          · refine s_aload_n C dX8_readEither_31 rfl ?_
            refine s_callV (rvf := fun _ => none) (st := []) (fr := 0) (lo := 0) (mc := 0) (ms := 0) C [8] wc_X8_advance wml_X8_53 wim_X8_advance wsl_8_X8_advance dX8_readEither_32 (As := []) rfl hf (fun x h' hF => c_X8_advance _ _ _ _ (x, h') hF) rfl (Nat.le_of_ble_eq_true rfl) (room_ok hX (by omega) (by omega)) (cell_ok hX (Nat.le_of_ble_eq_true rfl) (Nat.le_of_ble_eq_true rfl)) (fun _ h6 hf => ?_)
            refine s_aload_n C dX8_readEither_35 rfl ?_
            refine s_iload_n C dX8_readEither_36 rfl ?_
            refine s_callV (rvf := fun _ => none) (st := []) (fr := (2 + nS)) (lo := (41 + 60 * nS)) (mc := 0) (ms := 0) C [8] wc_X8_readBoth wml_X8_69 wim_X8_readBoth wsl_8_X8_readBoth dX8_readEither_37 (As := [.inl a1]) rfl hf (fun x h' hF => ih.1 o a1 h6 (x, h') hF) rfl (Nat.le_of_ble_eq_true rfl) (room_ok hX (by omega) (by omega)) (cell_ok hX (Nat.le_of_ble_eq_true rfl) (Nat.le_of_ble_eq_true rfl)) (fun _ h7 hf => ?_)
            refine s_aload_n C dX8_readEither_40 rfl ?_
            refine s_bipush C dX8_readEither_41 (v := (-21 : Int32)) (by decide) ?_
            refine s_callV (rvf := fun _ => none) (st := []) (fr := 0) (lo := 0) (mc := 0) (ms := 0) C [8] wc_X8_emit wml_X8_63 wim_X8_emit wsl_8_X8_emit dX8_readEither_43 (As := [.inl (-21 : Int32)]) rfl hf (fun x h' hF => c_X8_emit _ _ _ _ _ (x, h') hF) rfl (Nat.le_of_ble_eq_true rfl) (room_ok hX (by omega) (by omega)) (cell_ok hX (Nat.le_of_ble_eq_true rfl) (Nat.le_of_ble_eq_true rfl)) (fun _ h8 hf => ?_)
            refine s_iinc C dX8_readEither_46 (v := (x2 + 1)) rfl rfl (by decide) (nc_i rfl) (lv' := [some (rB (xD X).1 o), some (.int a1), some (.int (x2 + 1))]) rfl ?_
            refine s_goto (tgt := 7) C dX8_readEither_49 (by decide) ?_
            exact ih7 _ _ hf
  exact k7 lpN _ _ hf
set_option maxRecDepth 100000 in
set_option maxHeartbeats 4000000 in
theorem cs_X8_readOne (l : Launch) (D : DT) (nS : Nat) (ih : PG_X8_readBoth l D nS) : ∀ (p0 : Option Nat) (p1 : Int32) (h : AH) (r : Unit × AH), G_X8_readBoth (nS + 1) 3 p0 p1 h = some r → CM l D yX8_readOne cX8_readOne 4 none (2 + (nS + 1)) (41 + 60 * (nS + 1)) 0 0 [.inr (.inr p0), .inl p1] h none r.2 := by
  unfold PG_X8_readBoth at ih
  intro o a1 h r hf
  rw [eq_G_X8_readBoth] at hf
  have hf : fb_X8_readOne (G_X8_readBoth nS) o a1 h = some r := (if_pos rfl).symm.trans ((if_neg (by decide)).symm.trans ((if_neg (by decide)).symm.trans ((if_neg (by decide)).symm.trans (hf))))
  refine CM.of (by decide) (Nat.le_of_ble_eq_true rfl) (fun X hl C hD hX hnm E => ?_)
  subst hl
  subst hD
  have C : CX X RX8 cX8_readOne 4 := C
  show WW X h 0 0 0 [some (rB (xD X).1 o), some (.int a1), none, none] []
  unfold fb_X8_readOne at hf
  refine s_iconst C dX8_readOne_0 (v := (0 : Int32)) (by decide) ?_
  refine s_istore_n C dX8_readOne_1 (by decide) (nc_i rfl) (lv' := [some (rB (xD X).1 o), some (.int a1), some (.int (0 : Int32)), none]) rfl ?_
  refine s_lp2 hf (fun G2 z2 q2 hf => ?_)
  have k2 : ∀ (n : Nat) (x1 : Int32) (h2 : AH), G2 n x1 h2 = some r → WW X h2 0 0 2 [some (rB (xD X).1 o), some (.int a1), some (.int x1), none] [] := by
    intro n
    induction n with
    | zero =>
      intro x1 h2 hf
      rw [z2] at hf
      cases hf
    | succ n ih2 =>
      intro x1 h2 hf
      have hf := (q2 n x1 h2).symm.trans hf
      refine s_iload_n C dX8_readOne_2 rfl ?_
      refine s_bipush C dX8_readOne_3 (v := (6 : Int32)) (by decide) ?_
      refine s_jn hf (fun j33 e33 hf => ?_)
      have k33 : ∀ (h3 : AH), j33 h3 = some r → WW X h3 0 0 33 [some (rB (xD X).1 o), some (.int a1), some (.int x1), none] [] := by
        intro h3 hf
        rw [e33] at hf
        refine s_aload_n C dX8_readOne_33 rfl ?_
        refine s_getI C fl_X8_47 dX8_readOne_34 hf (fun v4 hf => ?_)
        refine s_iconst C dX8_readOne_37 (v := (2 : Int32)) (by decide) ?_
        refine s_jn hf (fun j110 e110 hf => ?_)
        have k110 : ∀ (h5 : AH), j110 h5 = some r → WW X h5 0 0 110 [some (rB (xD X).1 o), none, some (.int x1), none] [] := by
          intro h5 hf
          rw [e110] at hf
          refine s_iconst C dX8_readOne_110 (v := (0 : Int32)) (by decide) ?_
          refine s_istore_n C dX8_readOne_111 (by decide) (nc_i rfl) (lv' := [some (rB (xD X).1 o), none, some (.int x1), some (.int (0 : Int32))]) rfl ?_
          refine s_lp3 hf (fun G112 z112 q112 hf => ?_)
          have k112 : ∀ (n : Nat) (x6 : Int32) (x7 : Int32) (h8 : AH), G112 n x6 x7 h8 = some r → WW X h8 0 0 112 [some (rB (xD X).1 o), none, some (.int x6), some (.int x7)] [] := by
            intro n
            induction n with
            | zero =>
              intro x6 x7 h8 hf
              rw [z112] at hf
              cases hf
            | succ n ih112 =>
              intro x6 x7 h8 hf
              have hf := (q112 n x6 x7 h8).symm.trans hf
              refine s_iload_n C dX8_readOne_112 rfl ?_
              refine s_iload_n C dX8_readOne_113 rfl ?_
              refine s_icmp_ge (tgt := 129) C dX8_readOne_114 (by decide) hf (fun hf => ?_) (fun hf => ?_)
              · exact s_return C E dX8_readOne_129 hf (Nat.le_of_ble_eq_true rfl) (Nat.le_of_ble_eq_true rfl)
              · refine s_aload_n C dX8_readOne_117 rfl ?_
                refine s_bipush C dX8_readOne_118 (v := (-31 : Int32)) (by decide) ?_
                refine s_callV (rvf := fun _ => none) (st := []) (fr := 0) (lo := 0) (mc := 0) (ms := 0) C [8] wc_X8_emit wml_X8_63 wim_X8_emit wsl_8_X8_emit dX8_readOne_120 (As := [.inl (-31 : Int32)]) rfl hf (fun x h' hF => c_X8_emit _ _ _ _ _ (x, h') hF) rfl (Nat.le_of_ble_eq_true rfl) (room_ok hX (by omega) (by omega)) (cell_ok hX (Nat.le_of_ble_eq_true rfl) (Nat.le_of_ble_eq_true rfl)) (fun _ h9 hf => ?_)
                refine s_iinc C dX8_readOne_123 (v := (x7 + 1)) rfl rfl (by decide) (nc_i rfl) (lv' := [some (rB (xD X).1 o), none, some (.int x6), some (.int (x7 + 1))]) rfl ?_
                refine s_goto (tgt := 112) C dX8_readOne_126 (by decide) ?_
                exact ih112 _ _ _ hf
          exact k112 lpN _ _ _ hf
        refine s_jn hf (fun j49 e49 hf => ?_)
        have k49 : j49  = some r → WW X h3 0 0 49 [some (rB (xD X).1 o), none, some (.int x1), none] [] := by
          intro  hf
          rw [e49] at hf
          refine s_aload_n C dX8_readOne_49 rfl ?_
          refine s_aload_n C dX8_readOne_50 rfl ?_
          refine s_getR C fl_X8_19 dX8_readOne_51 hf (fun v10 hf => ?_)
          refine s_aload_n C dX8_readOne_54 rfl ?_
          refine s_getI C fl_X8_44 dX8_readOne_55 hf (fun v11 hf => ?_)
          refine s_iaload C dX8_readOne_58 hf (fun v12 hf => ?_)
          refine s_callV (rvf := fun _ => none) (st := []) (fr := 0) (lo := 0) (mc := 0) (ms := 0) C [8] wc_X8_emit wml_X8_63 wim_X8_emit wsl_8_X8_emit dX8_readOne_59 (As := [.inl v12]) rfl hf (fun x h' hF => c_X8_emit _ _ _ _ _ (x, h') hF) rfl (Nat.le_of_ble_eq_true rfl) (room_ok hX (by omega) (by omega)) (cell_ok hX (Nat.le_of_ble_eq_true rfl) (Nat.le_of_ble_eq_true rfl)) (fun _ h13 hf => ?_)
          refine s_aload_n C dX8_readOne_62 rfl ?_
          refine s_callV (rvf := fun _ => none) (st := []) (fr := 0) (lo := 0) (mc := 0) (ms := 0) C [8] wc_X8_advance wml_X8_53 wim_X8_advance wsl_8_X8_advance dX8_readOne_63 (As := []) rfl hf (fun x h' hF => c_X8_advance _ _ _ _ (x, h') hF) rfl (Nat.le_of_ble_eq_true rfl) (room_ok hX (by omega) (by omega)) (cell_ok hX (Nat.le_of_ble_eq_true rfl) (Nat.le_of_ble_eq_true rfl)) (fun _ h14 hf => ?_)
          refine s_goto (tgt := 110) C dX8_readOne_66 (by decide) ?_
          exact k110 _ hf
        refine s_icmp_eq (tgt := 49) C dX8_readOne_38 (by decide) hf (fun hf => ?_) (fun hf => ?_)
        · refine s_weak (lv' := [some (rB (xD X).1 o), none, some (.int x1), none]) ⟨rfl, ⟨rfl, trivial⟩⟩ ?_
          exact k49 hf
        · refine s_aload_n C dX8_readOne_41 rfl ?_
          refine s_getI C fl_X8_47 dX8_readOne_42 hf (fun v15 hf => ?_)
          refine s_iconst C dX8_readOne_45 (v := (3 : Int32)) (by decide) ?_
          refine s_icmp_ne (tgt := 69) C dX8_readOne_46 (by decide) hf (fun hf => ?_) (fun hf => ?_)
          · refine s_aload_n C dX8_readOne_69 rfl ?_
            refine s_getI C fl_X8_47 dX8_readOne_70 hf (fun v16 hf => ?_)
            refine s_bipush C dX8_readOne_73 (v := (40 : Int32)) (by decide) ?_
            refine s_jn hf (fun j106 e106 hf => ?_)
            have k106 : ∀ (h17 : AH), j106 h17 = some r → WW X h17 0 0 106 [some (rB (xD X).1 o), none, some (.int x1), none] [] := by
              intro h17 hf
              rw [e106] at hf
              refine s_aload_n C dX8_readOne_106 rfl ?_
              refine s_callV (rvf := fun _ => none) (st := []) (fr := 0) (lo := 0) (mc := 0) (ms := 0) C [8] wc_X8_blame wml_X8_56 wim_X8_blame wsl_8_X8_blame dX8_readOne_107 (As := []) rfl hf (fun x h' hF => c_X8_blame _ _ _ _ (x, h') hF) rfl (Nat.le_of_ble_eq_true rfl) (room_ok hX (by omega) (by omega)) (cell_ok hX (Nat.le_of_ble_eq_true rfl) (Nat.le_of_ble_eq_true rfl)) (fun _ h18 hf => ?_)
              exact k110 _ hf
            refine s_icmp_ne (tgt := 106) C dX8_readOne_75 (by decide) hf (fun hf => ?_) (fun hf => ?_)
            · refine s_weak (lv' := [some (rB (xD X).1 o), none, some (.int x1), none]) ⟨rfl, ⟨rfl, trivial⟩⟩ ?_
              exact k106 _ hf
            · refine s_aload_n C dX8_readOne_78 rfl ?_
              refine s_iload_n C dX8_readOne_79 rfl ?_
              refine s_iload_n C dX8_readOne_80 rfl ?_
              refine s_iadd C dX8_readOne_81 ?_
              refine s_callV (rvf := fun x => some (.int x)) (st := []) (fr := 1) (lo := 20) (mc := 0) (ms := 0) C [8] wc_X8_mayOpen wml_X8_75 wim_X8_mayOpen wsl_8_X8_mayOpen dX8_readOne_82 (As := [.inl (a1 + x1)]) rfl hf (fun x h' hF => c_X8_mayOpen _ _ _ _ _ (x, h') hF) rfl (Nat.le_of_ble_eq_true rfl) (room_ok hX (by omega) (by omega)) (cell_ok hX (Nat.le_of_ble_eq_true rfl) (Nat.le_of_ble_eq_true rfl)) (fun v20 h19 hf => ?_)
              refine s_if_eq (tgt := 106) C dX8_readOne_85 (by decide) hf (fun hf => ?_) (fun hf => ?_)
              · refine s_weak (lv' := [some (rB (xD X).1 o), none, some (.int x1), none]) ⟨rfl, ⟨rfl, trivial⟩⟩ ?_
                exact k106 _ hf
              · refine s_aload_n C dX8_readOne_88 rfl ?_
                refine s_iload_n C dX8_readOne_89 rfl ?_
                refine s_iload_n C dX8_readOne_90 rfl ?_
                refine s_iadd C dX8_readOne_91 ?_
                refine s_iconst C dX8_readOne_92 (v := (1 : Int32)) (by decide) ?_
                refine s_iadd C dX8_readOne_93 ?_
                refine s_callV (rvf := fun _ => none) (st := []) (fr := (2 + nS)) (lo := (41 + 60 * nS)) (mc := 0) (ms := 0) C [8] wc_X8_readEither wml_X8_59 wim_X8_readEither wsl_8_X8_readEither dX8_readOne_94 (As := [.inl ((a1 + x1) + (1 : Int32))]) rfl hf (fun x h' hF => ih.2.2.1 o ((a1 + x1) + (1 : Int32)) h19 (x, h') hF) rfl (Nat.le_of_ble_eq_true rfl) (room_ok hX (by omega) (by omega)) (cell_ok hX (Nat.le_of_ble_eq_true rfl) (Nat.le_of_ble_eq_true rfl)) (fun _ h21 hf => ?_)
                refine s_aload_n C dX8_readOne_97 rfl ?_
                refine s_bipush C dX8_readOne_98 (v := (41 : Int32)) (by decide) ?_
                refine s_callV (rvf := fun _ => none) (st := []) (fr := 1) (lo := 20) (mc := 0) (ms := 0) C [8] wc_X8_expect wml_X8_66 wim_X8_expect wsl_8_X8_expect dX8_readOne_100 (As := [.inl (41 : Int32)]) rfl hf (fun x h' hF => c_X8_expect _ _ _ _ _ (x, h') hF) rfl (Nat.le_of_ble_eq_true rfl) (room_ok hX (by omega) (by omega)) (cell_ok hX (Nat.le_of_ble_eq_true rfl) (Nat.le_of_ble_eq_true rfl)) (fun _ h22 hf => ?_)
                refine s_goto (tgt := 110) C dX8_readOne_103 (by decide) ?_
                refine s_weak (lv' := [some (rB (xD X).1 o), none, some (.int x1), none]) ⟨rfl, ⟨rfl, trivial⟩⟩ ?_
                exact k110 _ hf
          · refine s_weak (lv' := [some (rB (xD X).1 o), none, some (.int x1), none]) ⟨rfl, ⟨rfl, trivial⟩⟩ ?_
            exact k49 hf
      refine s_icmp_gt (tgt := 33) C dX8_readOne_5 (by decide) hf (fun hf => ?_) (fun hf => ?_)
      · exact k33 _ hf
      · refine s_aload_n C dX8_readOne_8 rfl ?_
        refine s_getI C fl_X8_47 dX8_readOne_9 hf (fun v23 hf => ?_)
        refine s_bipush C dX8_readOne_12 (v := (45 : Int32)) (by decide) ?_
        refine s_icmp_ne (tgt := 33) C dX8_readOne_14 (by decide) hf (fun hf => ?_) (fun hf => ?_)
        · exact k33 _ hf
        · refine s_aload_n C dX8_readOne_17 rfl ?_
          refine s_iload_n C dX8_readOne_18 rfl ?_
          refine s_iload_n C dX8_readOne_19 rfl ?_
          refine s_iadd C dX8_readOne_20 ?_
          refine s_callV (rvf := fun x => some (.int x)) (st := []) (fr := 1) (lo := 20) (mc := 0) (ms := 0) C [8] wc_X8_mayOpen wml_X8_75 wim_X8_mayOpen wsl_8_X8_mayOpen dX8_readOne_21 (As := [.inl (a1 + x1)]) rfl hf (fun x h' hF => c_X8_mayOpen _ _ _ _ _ (x, h') hF) rfl (Nat.le_of_ble_eq_true rfl) (room_ok hX (by omega) (by omega)) (cell_ok hX (Nat.le_of_ble_eq_true rfl) (Nat.le_of_ble_eq_true rfl)) (fun v25 h24 hf => ?_)
          refine s_if_eq (tgt := 33) C dX8_readOne_24 (by decide) hf (fun hf => ?_) (fun hf => ?_)
          · exact k33 _ hf
          · refine s_iinc C dX8_readOne_27 (v := (x1 + 1)) rfl rfl (by decide) (nc_i rfl) (lv' := [some (rB (xD X).1 o), some (.int a1), some (.int (x1 + 1)), none]) rfl ?_
            refine s_goto (tgt := 2) C dX8_readOne_30 (by decide) ?_
            exact ih2 _ _ hf
  exact k2 lpN _ _ hf
set_option maxRecDepth 100000 in
set_option maxHeartbeats 4000000 in
theorem cs_X8_readProduct (l : Launch) (D : DT) (nS : Nat) (ih : PG_X8_readBoth l D nS) : ∀ (p0 : Option Nat) (p1 : Int32) (h : AH) (r : Unit × AH), G_X8_readBoth (nS + 1) 4 p0 p1 h = some r → CM l D yX8_readProduct cX8_readProduct 4 none (2 + (nS + 1)) (41 + 60 * (nS + 1)) 0 0 [.inr (.inr p0), .inl p1] h none r.2 := by
  unfold PG_X8_readBoth at ih
  intro o a1 h r hf
  rw [eq_G_X8_readBoth] at hf
  have hf : fb_X8_readProduct (G_X8_readBoth nS) o a1 h = some r := (if_pos rfl).symm.trans ((if_neg (by decide)).symm.trans ((if_neg (by decide)).symm.trans ((if_neg (by decide)).symm.trans ((if_neg (by decide)).symm.trans (hf)))))
  refine CM.of (by decide) (Nat.le_of_ble_eq_true rfl) (fun X hl C hD hX hnm E => ?_)
  subst hl
  subst hD
  have C : CX X RX8 cX8_readProduct 4 := C
  show WW X h 0 0 0 [some (rB (xD X).1 o), some (.int a1), none, none] []
  unfold fb_X8_readProduct at hf
  refine s_aload_n C dX8_readProduct_0 rfl ?_
  refine s_iload_n C dX8_readProduct_1 rfl ?_
  refine s_callV (rvf := fun _ => none) (st := []) (fr := (2 + nS)) (lo := (41 + 60 * nS)) (mc := 0) (ms := 0) C [8] wc_X8_readOne wml_X8_85 wim_X8_readOne wsl_8_X8_readOne dX8_readProduct_2 (As := [.inl a1]) rfl hf (fun x h' hF => ih.2.2.2.1 o a1 h (x, h') hF) rfl (Nat.le_of_ble_eq_true rfl) (room_ok hX (by omega) (by omega)) (cell_ok hX (Nat.le_of_ble_eq_true rfl) (Nat.le_of_ble_eq_true rfl)) (fun _ h1 hf => ?_)
  refine s_iconst C dX8_readProduct_5 (v := (0 : Int32)) (by decide) ?_
  refine s_istore_n C dX8_readProduct_6 (by decide) (nc_i rfl) (lv' := [some (rB (xD X).1 o), some (.int a1), some (.int (0 : Int32)), none]) rfl ?_
  refine s_lp2 hf (fun G7 z7 q7 hf => ?_)
  have k7 : ∀ (n : Nat) (x2 : Int32) (h3 : AH), G7 n x2 h3 = some r → WW X h3 0 0 7 [some (rB (xD X).1 o), some (.int a1), some (.int x2), none] [] := by
    intro n
    induction n with
    | zero =>
      intro x2 h3 hf
      rw [z7] at hf
      cases hf
    | succ n ih7 =>
      intro x2 h3 hf
      have hf := (q7 n x2 h3).symm.trans hf
      refine s_iload_n C dX8_readProduct_7 rfl ?_
      refine s_sipush C dX8_readProduct_8 (v := (160 : Int32)) (by decide) ?_
      refine s_jn hf (fun j99 e99 hf => ?_)
      have k99 : j99  = some r → WW X h3 0 0 99 [none, none, none, none] [] := by
        intro  hf
        rw [e99] at hf
        exact s_return C E dX8_readProduct_99 hf (Nat.le_of_ble_eq_true rfl) (Nat.le_of_ble_eq_true rfl)
      refine s_icmp_ge (tgt := 99) C dX8_readProduct_11 (by decide) hf (fun hf => ?_) (fun hf => ?_)
      · refine s_weak (lv' := [none, none, none, none]) trivial ?_
        exact k99 hf
      · refine s_aload_n C dX8_readProduct_14 rfl ?_
        refine s_getI C fl_X8_41 dX8_readProduct_15 hf (fun v4 hf => ?_)
        refine s_if_ge (tgt := 99) C dX8_readProduct_18 (by decide) hf (fun hf => ?_) (fun hf => ?_)
        · refine s_weak (lv' := [none, none, none, none]) trivial ?_
          exact k99 hf
        · refine s_aload_n C dX8_readProduct_21 rfl ?_
          refine s_getI C fl_X8_47 dX8_readProduct_22 hf (fun v5 hf => ?_)
          refine s_bipush C dX8_readProduct_25 (v := (42 : Int32)) (by decide) ?_
          refine s_jn hf (fun j48 e48 hf => ?_)
          have k48 : j48  = some r → WW X h3 0 0 48 [some (rB (xD X).1 o), some (.int a1), some (.int x2), none] [] := by
            intro  hf
            rw [e48] at hf
            refine s_aload_n C dX8_readProduct_48 rfl ?_
            refine s_getI C fl_X8_47 dX8_readProduct_49 hf (fun v6 hf => ?_)
            refine s_bipush C dX8_readProduct_52 (v := (42 : Int32)) (by decide) ?_
            refine s_jn hf (fun j78 e78 hf => ?_)
            have k78 : ∀ (x7 : Int32), j78 x7 = some r → WW X h3 0 0 78 [some (rB (xD X).1 o), some (.int a1), some (.int x2), none] [.int x7] := by
              intro x7 hf
              rw [e78] at hf
              refine s_istore_n C dX8_readProduct_78 (by decide) (nc_i rfl) (lv' := [some (rB (xD X).1 o), some (.int a1), some (.int x2), some (.int x7)]) rfl ?_
              refine s_aload_n C dX8_readProduct_79 rfl ?_
              refine s_callV (rvf := fun _ => none) (st := []) (fr := 0) (lo := 0) (mc := 0) (ms := 0) C [8] wc_X8_advance wml_X8_53 wim_X8_advance wsl_8_X8_advance dX8_readProduct_80 (As := []) rfl hf (fun x h' hF => c_X8_advance _ _ _ _ (x, h') hF) rfl (Nat.le_of_ble_eq_true rfl) (room_ok hX (by omega) (by omega)) (cell_ok hX (Nat.le_of_ble_eq_true rfl) (Nat.le_of_ble_eq_true rfl)) (fun _ h8 hf => ?_)
              refine s_aload_n C dX8_readProduct_83 rfl ?_
              refine s_iload_n C dX8_readProduct_84 rfl ?_
              refine s_callV (rvf := fun _ => none) (st := []) (fr := (2 + nS)) (lo := (41 + 60 * nS)) (mc := 0) (ms := 0) C [8] wc_X8_readOne wml_X8_85 wim_X8_readOne wsl_8_X8_readOne dX8_readProduct_85 (As := [.inl a1]) rfl hf (fun x h' hF => ih.2.2.2.1 o a1 h8 (x, h') hF) rfl (Nat.le_of_ble_eq_true rfl) (room_ok hX (by omega) (by omega)) (cell_ok hX (Nat.le_of_ble_eq_true rfl) (Nat.le_of_ble_eq_true rfl)) (fun _ h9 hf => ?_)
              refine s_aload_n C dX8_readProduct_88 rfl ?_
              refine s_iload_n C dX8_readProduct_89 rfl ?_
              refine s_callV (rvf := fun _ => none) (st := []) (fr := 0) (lo := 0) (mc := 0) (ms := 0) C [8] wc_X8_emit wml_X8_63 wim_X8_emit wsl_8_X8_emit dX8_readProduct_90 (As := [.inl x7]) rfl hf (fun x h' hF => c_X8_emit _ _ _ _ _ (x, h') hF) rfl (Nat.le_of_ble_eq_true rfl) (room_ok hX (by omega) (by omega)) (cell_ok hX (Nat.le_of_ble_eq_true rfl) (Nat.le_of_ble_eq_true rfl)) (fun _ h10 hf => ?_)
              refine s_iinc C dX8_readProduct_93 (v := (x2 + 1)) rfl rfl (by decide) (nc_i rfl) (lv' := [some (rB (xD X).1 o), some (.int a1), some (.int (x2 + 1)), some (.int x7)]) rfl ?_
              refine s_goto (tgt := 7) C dX8_readProduct_96 (by decide) ?_
              refine s_weak (lv' := [some (rB (xD X).1 o), some (.int a1), some (.int (x2 + 1)), none]) ⟨rfl, ⟨rfl, ⟨rfl, trivial⟩⟩⟩ ?_
              exact ih7 _ _ hf
            refine s_icmp_ne (tgt := 62) C dX8_readProduct_54 (by decide) hf (fun hf => ?_) (fun hf => ?_)
            · refine s_aload_n C dX8_readProduct_62 rfl ?_
              refine s_getI C fl_X8_47 dX8_readProduct_63 hf (fun v11 hf => ?_)
              refine s_bipush C dX8_readProduct_66 (v := (47 : Int32)) (by decide) ?_
              refine s_icmp_ne (tgt := 76) C dX8_readProduct_68 (by decide) hf (fun hf => ?_) (fun hf => ?_)
              · refine s_bipush C dX8_readProduct_76 (v := (-30 : Int32)) (by decide) ?_
                exact k78 _ hf
              · refine s_bipush C dX8_readProduct_71 (v := (-29 : Int32)) (by decide) ?_
                refine s_goto (tgt := 78) C dX8_readProduct_73 (by decide) ?_
                exact k78 _ hf
            · refine s_bipush C dX8_readProduct_57 (v := (-28 : Int32)) (by decide) ?_
              refine s_goto (tgt := 78) C dX8_readProduct_59 (by decide) ?_
              exact k78 _ hf
          refine s_icmp_eq (tgt := 48) C dX8_readProduct_27 (by decide) hf (fun hf => ?_) (fun hf => ?_)
          · exact k48 hf
          · refine s_aload_n C dX8_readProduct_30 rfl ?_
            refine s_getI C fl_X8_47 dX8_readProduct_31 hf (fun v12 hf => ?_)
            refine s_bipush C dX8_readProduct_34 (v := (47 : Int32)) (by decide) ?_
            refine s_icmp_eq (tgt := 48) C dX8_readProduct_36 (by decide) hf (fun hf => ?_) (fun hf => ?_)
            · exact k48 hf
            · refine s_aload_n C dX8_readProduct_39 rfl ?_
              refine s_getI C fl_X8_47 dX8_readProduct_40 hf (fun v13 hf => ?_)
              refine s_bipush C dX8_readProduct_43 (v := (37 : Int32)) (by decide) ?_
              refine s_icmp_ne (tgt := 99) C dX8_readProduct_45 (by decide) hf (fun hf => ?_) (fun hf => ?_)
              · refine s_weak (lv' := [none, none, none, none]) trivial ?_
                exact k99 hf
              · exact k48 hf
  exact k7 lpN _ _ hf
set_option maxRecDepth 100000 in
set_option maxHeartbeats 4000000 in
theorem cs_X8_readSum (l : Launch) (D : DT) (nS : Nat) (ih : PG_X8_readBoth l D nS) : ∀ (p0 : Option Nat) (p1 : Int32) (h : AH) (r : Unit × AH), G_X8_readBoth (nS + 1) 5 p0 p1 h = some r → CM l D yX8_readSum cX8_readSum 4 none (2 + (nS + 1)) (41 + 60 * (nS + 1)) 0 0 [.inr (.inr p0), .inl p1] h none r.2 := by
  unfold PG_X8_readBoth at ih
  intro o a1 h r hf
  rw [eq_G_X8_readBoth] at hf
  have hf : fb_X8_readSum (G_X8_readBoth nS) o a1 h = some r := (if_neg (by decide)).symm.trans ((if_neg (by decide)).symm.trans ((if_neg (by decide)).symm.trans ((if_neg (by decide)).symm.trans ((if_neg (by decide)).symm.trans (hf)))))
  refine CM.of (by decide) (Nat.le_of_ble_eq_true rfl) (fun X hl C hD hX hnm E => ?_)
  subst hl
  subst hD
  have C : CX X RX8 cX8_readSum 4 := C
  show WW X h 0 0 0 [some (rB (xD X).1 o), some (.int a1), none, none] []
  unfold fb_X8_readSum at hf
  refine s_aload_n C dX8_readSum_0 rfl ?_
  refine s_iload_n C dX8_readSum_1 rfl ?_
  refine s_callV (rvf := fun _ => none) (st := []) (fr := (2 + nS)) (lo := (41 + 60 * nS)) (mc := 0) (ms := 0) C [8] wc_X8_readProduct wml_X8_82 wim_X8_readProduct wsl_8_X8_readProduct dX8_readSum_2 (As := [.inl a1]) rfl hf (fun x h' hF => ih.2.2.2.2.1 o a1 h (x, h') hF) rfl (Nat.le_of_ble_eq_true rfl) (room_ok hX (by omega) (by omega)) (cell_ok hX (Nat.le_of_ble_eq_true rfl) (Nat.le_of_ble_eq_true rfl)) (fun _ h1 hf => ?_)
  refine s_iconst C dX8_readSum_5 (v := (0 : Int32)) (by decide) ?_
  refine s_istore_n C dX8_readSum_6 (by decide) (nc_i rfl) (lv' := [some (rB (xD X).1 o), some (.int a1), some (.int (0 : Int32)), none]) rfl ?_
  refine s_lp2 hf (fun G7 z7 q7 hf => ?_)
  have k7 : ∀ (n : Nat) (x2 : Int32) (h3 : AH), G7 n x2 h3 = some r → WW X h3 0 0 7 [some (rB (xD X).1 o), some (.int a1), some (.int x2), none] [] := by
    intro n
    induction n with
    | zero =>
      intro x2 h3 hf
      rw [z7] at hf
      cases hf
    | succ n ih7 =>
      intro x2 h3 hf
      have hf := (q7 n x2 h3).symm.trans hf
      refine s_iload_n C dX8_readSum_7 rfl ?_
      refine s_sipush C dX8_readSum_8 (v := (160 : Int32)) (by decide) ?_
      refine s_jn hf (fun j76 e76 hf => ?_)
      have k76 : j76  = some r → WW X h3 0 0 76 [none, none, none, none] [] := by
        intro  hf
        rw [e76] at hf
        exact s_return C E dX8_readSum_76 hf (Nat.le_of_ble_eq_true rfl) (Nat.le_of_ble_eq_true rfl)
      refine s_icmp_ge (tgt := 76) C dX8_readSum_11 (by decide) hf (fun hf => ?_) (fun hf => ?_)
      · refine s_weak (lv' := [none, none, none, none]) trivial ?_
        exact k76 hf
      · refine s_aload_n C dX8_readSum_14 rfl ?_
        refine s_getI C fl_X8_41 dX8_readSum_15 hf (fun v4 hf => ?_)
        refine s_if_ge (tgt := 76) C dX8_readSum_18 (by decide) hf (fun hf => ?_) (fun hf => ?_)
        · refine s_weak (lv' := [none, none, none, none]) trivial ?_
          exact k76 hf
        · refine s_aload_n C dX8_readSum_21 rfl ?_
          refine s_getI C fl_X8_47 dX8_readSum_22 hf (fun v5 hf => ?_)
          refine s_bipush C dX8_readSum_25 (v := (43 : Int32)) (by decide) ?_
          refine s_jn hf (fun j39 e39 hf => ?_)
          have k39 : j39  = some r → WW X h3 0 0 39 [some (rB (xD X).1 o), some (.int a1), some (.int x2), none] [] := by
            intro  hf
            rw [e39] at hf
            refine s_aload_n C dX8_readSum_39 rfl ?_
            refine s_getI C fl_X8_47 dX8_readSum_40 hf (fun v6 hf => ?_)
            refine s_bipush C dX8_readSum_43 (v := (43 : Int32)) (by decide) ?_
            refine s_jn hf (fun j55 e55 hf => ?_)
            have k55 : ∀ (x7 : Int32), j55 x7 = some r → WW X h3 0 0 55 [some (rB (xD X).1 o), some (.int a1), some (.int x2), none] [.int x7] := by
              intro x7 hf
              rw [e55] at hf
              refine s_istore_n C dX8_readSum_55 (by decide) (nc_i rfl) (lv' := [some (rB (xD X).1 o), some (.int a1), some (.int x2), some (.int x7)]) rfl ?_
              refine s_aload_n C dX8_readSum_56 rfl ?_
              refine s_callV (rvf := fun _ => none) (st := []) (fr := 0) (lo := 0) (mc := 0) (ms := 0) C [8] wc_X8_advance wml_X8_53 wim_X8_advance wsl_8_X8_advance dX8_readSum_57 (As := []) rfl hf (fun x h' hF => c_X8_advance _ _ _ _ (x, h') hF) rfl (Nat.le_of_ble_eq_true rfl) (room_ok hX (by omega) (by omega)) (cell_ok hX (Nat.le_of_ble_eq_true rfl) (Nat.le_of_ble_eq_true rfl)) (fun _ h8 hf => ?_)
              refine s_aload_n C dX8_readSum_60 rfl ?_
              refine s_iload_n C dX8_readSum_61 rfl ?_
              refine s_callV (rvf := fun _ => none) (st := []) (fr := (2 + nS)) (lo := (41 + 60 * nS)) (mc := 0) (ms := 0) C [8] wc_X8_readProduct wml_X8_82 wim_X8_readProduct wsl_8_X8_readProduct dX8_readSum_62 (As := [.inl a1]) rfl hf (fun x h' hF => ih.2.2.2.2.1 o a1 h8 (x, h') hF) rfl (Nat.le_of_ble_eq_true rfl) (room_ok hX (by omega) (by omega)) (cell_ok hX (Nat.le_of_ble_eq_true rfl) (Nat.le_of_ble_eq_true rfl)) (fun _ h9 hf => ?_)
              refine s_aload_n C dX8_readSum_65 rfl ?_
              refine s_iload_n C dX8_readSum_66 rfl ?_
              refine s_callV (rvf := fun _ => none) (st := []) (fr := 0) (lo := 0) (mc := 0) (ms := 0) C [8] wc_X8_emit wml_X8_63 wim_X8_emit wsl_8_X8_emit dX8_readSum_67 (As := [.inl x7]) rfl hf (fun x h' hF => c_X8_emit _ _ _ _ _ (x, h') hF) rfl (Nat.le_of_ble_eq_true rfl) (room_ok hX (by omega) (by omega)) (cell_ok hX (Nat.le_of_ble_eq_true rfl) (Nat.le_of_ble_eq_true rfl)) (fun _ h10 hf => ?_)
              refine s_iinc C dX8_readSum_70 (v := (x2 + 1)) rfl rfl (by decide) (nc_i rfl) (lv' := [some (rB (xD X).1 o), some (.int a1), some (.int (x2 + 1)), some (.int x7)]) rfl ?_
              refine s_goto (tgt := 7) C dX8_readSum_73 (by decide) ?_
              refine s_weak (lv' := [some (rB (xD X).1 o), some (.int a1), some (.int (x2 + 1)), none]) ⟨rfl, ⟨rfl, ⟨rfl, trivial⟩⟩⟩ ?_
              exact ih7 _ _ hf
            refine s_icmp_ne (tgt := 53) C dX8_readSum_45 (by decide) hf (fun hf => ?_) (fun hf => ?_)
            · refine s_bipush C dX8_readSum_53 (v := (-27 : Int32)) (by decide) ?_
              exact k55 _ hf
            · refine s_bipush C dX8_readSum_48 (v := (-26 : Int32)) (by decide) ?_
              refine s_goto (tgt := 55) C dX8_readSum_50 (by decide) ?_
              exact k55 _ hf
          refine s_icmp_eq (tgt := 39) C dX8_readSum_27 (by decide) hf (fun hf => ?_) (fun hf => ?_)
          · exact k39 hf
          · refine s_aload_n C dX8_readSum_30 rfl ?_
            refine s_getI C fl_X8_47 dX8_readSum_31 hf (fun v11 hf => ?_)
            refine s_bipush C dX8_readSum_34 (v := (45 : Int32)) (by decide) ?_
            refine s_icmp_ne (tgt := 76) C dX8_readSum_36 (by decide) hf (fun hf => ?_) (fun hf => ?_)
            · refine s_weak (lv' := [none, none, none, none]) trivial ?_
              exact k76 hf
            · exact k39 hf
  exact k7 lpN _ _ hf
theorem c_G_X8_readBoth (l : Launch) (D : DT) : ∀ n : Nat, PG_X8_readBoth l D n := by
  intro n
  induction n with
  | zero =>
    unfold PG_X8_readBoth
    exact ⟨fun p0 p1 h r hf => (by cases hf), fun p0 p1 h r hf => (by cases hf), fun p0 p1 h r hf => (by cases hf), fun p0 p1 h r hf => (by cases hf), fun p0 p1 h r hf => (by cases hf), fun p0 p1 h r hf => (by cases hf)⟩
  | succ nS ih =>
    unfold PG_X8_readBoth
    exact ⟨cs_X8_readBoth l D nS ih, cs_X8_readDenied l D nS ih, cs_X8_readEither l D nS ih, cs_X8_readOne l D nS ih, cs_X8_readProduct l D nS ih, cs_X8_readSum l D nS ih⟩
theorem c_X8_readBoth (l : Launch) (D : DT) (o : Option Nat) (a1 : Int32) (h : AH) (r : Unit × AH) (hf : f_X8_readBoth o a1 h = some r) : CM l D yX8_readBoth cX8_readBoth 3 none 102 6041 0 0 [.inr (.inr o), .inl a1] h none r.2 := by
  have hc := (c_G_X8_readBoth l D (opq 100))
  unfold PG_X8_readBoth at hc
  have hc := hc.1 o a1 h r hf
  rw [opq_eq] at hc
  exact hc
theorem c_X8_readDenied (l : Launch) (D : DT) (o : Option Nat) (a1 : Int32) (h : AH) (r : Unit × AH) (hf : f_X8_readDenied o a1 h = some r) : CM l D yX8_readDenied cX8_readDenied 5 none 102 6041 0 0 [.inr (.inr o), .inl a1] h none r.2 := by
  have hc := (c_G_X8_readBoth l D (opq 100))
  unfold PG_X8_readBoth at hc
  have hc := hc.2.1 o a1 h r hf
  rw [opq_eq] at hc
  exact hc
theorem c_X8_readEither (l : Launch) (D : DT) (o : Option Nat) (a1 : Int32) (h : AH) (r : Unit × AH) (hf : f_X8_readEither o a1 h = some r) : CM l D yX8_readEither cX8_readEither 3 none 102 6041 0 0 [.inr (.inr o), .inl a1] h none r.2 := by
  have hc := (c_G_X8_readBoth l D (opq 100))
  unfold PG_X8_readBoth at hc
  have hc := hc.2.2.1 o a1 h r hf
  rw [opq_eq] at hc
  exact hc
theorem c_X8_readOne (l : Launch) (D : DT) (o : Option Nat) (a1 : Int32) (h : AH) (r : Unit × AH) (hf : f_X8_readOne o a1 h = some r) : CM l D yX8_readOne cX8_readOne 4 none 102 6041 0 0 [.inr (.inr o), .inl a1] h none r.2 := by
  have hc := (c_G_X8_readBoth l D (opq 100))
  unfold PG_X8_readBoth at hc
  have hc := hc.2.2.2.1 o a1 h r hf
  rw [opq_eq] at hc
  exact hc
theorem c_X8_readProduct (l : Launch) (D : DT) (o : Option Nat) (a1 : Int32) (h : AH) (r : Unit × AH) (hf : f_X8_readProduct o a1 h = some r) : CM l D yX8_readProduct cX8_readProduct 4 none 102 6041 0 0 [.inr (.inr o), .inl a1] h none r.2 := by
  have hc := (c_G_X8_readBoth l D (opq 100))
  unfold PG_X8_readBoth at hc
  have hc := hc.2.2.2.2.1 o a1 h r hf
  rw [opq_eq] at hc
  exact hc
theorem c_X8_readSum (l : Launch) (D : DT) (o : Option Nat) (a1 : Int32) (h : AH) (r : Unit × AH) (hf : f_X8_readSum o a1 h = some r) : CM l D yX8_readSum cX8_readSum 4 none 102 6041 0 0 [.inr (.inr o), .inl a1] h none r.2 := by
  have hc := (c_G_X8_readBoth l D (opq 100))
  unfold PG_X8_readBoth at hc
  have hc := hc.2.2.2.2.2 o a1 h r hf
  rw [opq_eq] at hc
  exact hc
