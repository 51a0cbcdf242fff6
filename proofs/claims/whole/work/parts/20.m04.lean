/-- HillBoxes$Rules.isNearSecret(II)Z -/
noncomputable def f_X6_isNearSecret (o : Option Nat) (a1 : Int32) (a2 : Int32) (h : AH) : Option (Int32 × AH) :=
  lp (fun _ _ => none) (fun (L2 : Int32 → AH → Option (Int32 × AH)) (x1 : Int32) (h2 : AH) =>
    fR h2 [6] o 3 fun v3 =>
    fI h2 [3] v3 3 fun v4 =>
    if v4 ≤ x1 then
      rz (0 : Int32) h2
    else
      fR h2 [6] o 3 fun v5 =>
      rO h2 [3] v5 <| cl (f_X3_boxAt v5 x1 h2) fun v7 h6 =>
      lp (fun _ _ _ => none) (fun (L26 : Int32 → Int32 → AH → Option (Int32 × AH)) (x8 : Int32) (x9 : Int32) (h10 : AH) =>
        jn (fun (h11 : AH) =>
          L2 (x8 + 1) h11) fun j75 =>
        if v7 = none then
          j75 h10
        else
          rO h10 [1] v7 <| cl (f_X1_isDown v7 h10) fun v13 h12 =>
          if v13 = 0 then
            fI h12 [1] v7 10 fun v14 =>
            if (v14 - (1 : Int32)) ≤ x9 then
              j75 h12
            else
              fR h12 [1] v7 4 fun v15 =>
              aI h12 20 v15 x9 fun v16 =>
              cl (f_X11_far a1 v16 h12) fun v18 h17 =>
              if a2 ≤ v18 then
                L26 x8 (x9 + 1) h17
              else
                rz (1 : Int32) h17
          else
            j75 h12) lpN x1 (0 : Int32) h6) lpN (0 : Int32) h
set_option maxRecDepth 100000 in
set_option maxHeartbeats 4000000 in
theorem c_X6_isNearSecret (l : Launch) (D : DT) (o : Option Nat) (a1 : Int32) (a2 : Int32) (h : AH) (r : Int32 × AH) (hf : f_X6_isNearSecret o a1 a2 h = some r) : CM l D yX6_isNearSecret cX6_isNearSecret 6 (some .boolean) 2 42 0 0 [.inr (.inr o), .inl a1, .inl a2] h (some (.int r.1)) r.2 := by
  refine CM.of (by decide) (Nat.le_of_ble_eq_true rfl) (fun X hl C hD hX hnm E => ?_)
  subst hl
  subst hD
  have C : CX X RX6 cX6_isNearSecret 6 := C
  show WW X h 0 0 0 [some (rB (xD X).1 o), some (.int a1), some (.int a2), none, none, none] []
  unfold f_X6_isNearSecret at hf
  refine s_iconst C dX6_isNearSecret_0 (v := (0 : Int32)) (by decide) ?_
  refine s_istore_n C dX6_isNearSecret_1 (by decide) (nc_i rfl) (lv' := [some (rB (xD X).1 o), some (.int a1), some (.int a2), some (.int (0 : Int32)), none, none]) rfl ?_
  refine s_lp2 hf (fun G2 z2 q2 hf => ?_)
  have k2 : ∀ (n : Nat) (x1 : Int32) (h2 : AH), G2 n x1 h2 = some r → WW X h2 0 0 2 [some (rB (xD X).1 o), some (.int a1), some (.int a2), some (.int x1), none, none] [] := by
    intro n
    induction n with
    | zero =>
      intro x1 h2 hf
      rw [z2] at hf
      cases hf
    | succ n ih2 =>
      intro x1 h2 hf
      have hf := (q2 n x1 h2).symm.trans hf
      refine s_iload_n C dX6_isNearSecret_2 rfl ?_
      refine s_aload_n C dX6_isNearSecret_3 rfl ?_
      refine s_getR C fl_X6_41 dX6_isNearSecret_4 hf (fun v3 hf => ?_)
      refine s_getI C fl_X6_160 dX6_isNearSecret_7 hf (fun v4 hf => ?_)
      refine s_icmp_ge (tgt := 81) C dX6_isNearSecret_10 (by decide) hf (fun hf => ?_) (fun hf => ?_)
      · refine s_iconst C dX6_isNearSecret_81 (v := (0 : Int32)) (by decide) ?_
        exact s_zreturn C E dX6_isNearSecret_82 hf (Nat.le_of_ble_eq_true rfl) (Nat.le_of_ble_eq_true rfl)
      · refine s_aload_n C dX6_isNearSecret_13 rfl ?_
        refine s_getR C fl_X6_41 dX6_isNearSecret_14 hf (fun v5 hf => ?_)
        refine s_iload_n C dX6_isNearSecret_17 rfl ?_
        refine s_callV (rvf := fun x => some (rB (xD X).1 x)) (st := []) (fr := 0) (lo := 0) (mc := 0) (ms := 0) C [3] wc_X3_boxAt wml_X6_127 wim_X3_boxAt wsl_3_X3_boxAt dX6_isNearSecret_18 (As := [.inl x1]) rfl hf (fun x h' hF => c_X3_boxAt _ _ _ _ _ (x, h') hF) rfl (Nat.le_of_ble_eq_true rfl) (room_ok hX (Nat.le_of_ble_eq_true rfl) (Nat.le_of_ble_eq_true rfl)) (cell_ok hX (Nat.le_of_ble_eq_true rfl) (Nat.le_of_ble_eq_true rfl)) (fun v7 h6 hf => ?_)
        refine s_astore C dX6_isNearSecret_21 (by decide) (nc_i rfl) (lv' := [some (rB (xD X).1 o), some (.int a1), some (.int a2), some (.int x1), some (rB (xD X).1 v7), none]) rfl ?_
        refine s_iconst C dX6_isNearSecret_23 (v := (0 : Int32)) (by decide) ?_
        refine s_istore C dX6_isNearSecret_24 (by decide) (nc_r rfl) (lv' := [some (rB (xD X).1 o), some (.int a1), some (.int a2), some (.int x1), some (rB (xD X).1 v7), some (.int (0 : Int32))]) rfl ?_
        refine s_lp3 hf (fun G26 z26 q26 hf => ?_)
        have k26 : ∀ (n : Nat) (x8 : Int32) (x9 : Int32) (h10 : AH), G26 n x8 x9 h10 = some r → WW X h10 0 0 26 [some (rB (xD X).1 o), some (.int a1), some (.int a2), some (.int x8), some (rB (xD X).1 v7), some (.int x9)] [] := by
          intro n
          induction n with
          | zero =>
            intro x8 x9 h10 hf
            rw [z26] at hf
            cases hf
          | succ n ih26 =>
            intro x8 x9 h10 hf
            have hf := (q26 n x8 x9 h10).symm.trans hf
            refine s_aload C dX6_isNearSecret_26 rfl ?_
            refine s_jn hf (fun j75 e75 hf => ?_)
            have k75 : ∀ (h11 : AH), j75 h11 = some r → WW X h11 0 0 75 [some (rB (xD X).1 o), some (.int a1), some (.int a2), some (.int x8), none, none] [] := by
              intro h11 hf
              rw [e75] at hf
              refine s_iinc C dX6_isNearSecret_75 (v := (x8 + 1)) rfl rfl (by decide) (nc_i rfl) (lv' := [some (rB (xD X).1 o), some (.int a1), some (.int a2), some (.int (x8 + 1)), none, none]) rfl ?_
              refine s_goto (tgt := 2) C dX6_isNearSecret_78 (by decide) ?_
              exact ih2 _ _ hf
            refine s_ifnull (tgt := 75) C dX6_isNearSecret_28 (by decide) hf (fun hf => ?_) (fun hf => ?_)
            · refine s_weak (lv' := [some (rB (xD X).1 o), some (.int a1), some (.int a2), some (.int x8), none, none]) ⟨rfl, ⟨rfl, ⟨rfl, ⟨rfl, trivial⟩⟩⟩⟩ ?_
              exact k75 _ hf
            · refine s_aload C dX6_isNearSecret_31 rfl ?_
              refine s_callV (rvf := fun x => some (.int x)) (st := []) (fr := 0) (lo := 0) (mc := 0) (ms := 0) C [1] wc_X1_isDown wml_X6_163 wim_X1_isDown wsl_1_X1_isDown dX6_isNearSecret_33 (As := []) rfl hf (fun x h' hF => c_X1_isDown _ _ _ _ (x, h') hF) rfl (Nat.le_of_ble_eq_true rfl) (room_ok hX (Nat.le_of_ble_eq_true rfl) (Nat.le_of_ble_eq_true rfl)) (cell_ok hX (Nat.le_of_ble_eq_true rfl) (Nat.le_of_ble_eq_true rfl)) (fun v13 h12 hf => ?_)
              refine s_if_ne (tgt := 75) C dX6_isNearSecret_36 (by decide) hf (fun hf => ?_) (fun hf => ?_)
              · refine s_weak (lv' := [some (rB (xD X).1 o), some (.int a1), some (.int a2), some (.int x8), none, none]) ⟨rfl, ⟨rfl, ⟨rfl, ⟨rfl, trivial⟩⟩⟩⟩ ?_
                exact k75 _ hf
              · refine s_iload C dX6_isNearSecret_39 rfl ?_
                refine s_aload C dX6_isNearSecret_41 rfl ?_
                refine s_getI C fl_X6_172 dX6_isNearSecret_43 hf (fun v14 hf => ?_)
                refine s_iconst C dX6_isNearSecret_46 (v := (1 : Int32)) (by decide) ?_
                refine s_isub C dX6_isNearSecret_47 ?_
                refine s_icmp_ge (tgt := 75) C dX6_isNearSecret_48 (by decide) hf (fun hf => ?_) (fun hf => ?_)
                · refine s_weak (lv' := [some (rB (xD X).1 o), some (.int a1), some (.int a2), some (.int x8), none, none]) ⟨rfl, ⟨rfl, ⟨rfl, ⟨rfl, trivial⟩⟩⟩⟩ ?_
                  exact k75 _ hf
                · refine s_iload_n C dX6_isNearSecret_51 rfl ?_
                  refine s_aload C dX6_isNearSecret_52 rfl ?_
                  refine s_getR C fl_X6_173 dX6_isNearSecret_54 hf (fun v15 hf => ?_)
                  refine s_iload C dX6_isNearSecret_57 rfl ?_
                  refine s_iaload C dX6_isNearSecret_59 hf (fun v16 hf => ?_)
                  refine s_callSN (rvf := fun x => some (.int x)) (st := []) (fr := 1) (lo := 21) (mc := 0) (ms := 0) C wc_X11_far wmn_X6_169 wst_X11_far dX6_isNearSecret_60 (As := [.inl a1, .inl v16]) rfl hf (fun x h' hF => c_X11_far _ _ _ _ _ (x, h') hF) rfl (Nat.le_of_ble_eq_true rfl) (room_ok hX (Nat.le_of_ble_eq_true rfl) (Nat.le_of_ble_eq_true rfl)) (cell_ok hX (Nat.le_of_ble_eq_true rfl) (Nat.le_of_ble_eq_true rfl)) (fun v18 h17 hf => ?_)
                  refine s_iload_n C dX6_isNearSecret_63 rfl ?_
                  refine s_icmp_ge (tgt := 69) C dX6_isNearSecret_64 (by decide) hf (fun hf => ?_) (fun hf => ?_)
                  · refine s_iinc C dX6_isNearSecret_69 (v := (x9 + 1)) rfl rfl (by decide) (nc_r rfl) (lv' := [some (rB (xD X).1 o), some (.int a1), some (.int a2), some (.int x8), some (rB (xD X).1 v7), some (.int (x9 + 1))]) rfl ?_
                    refine s_goto (tgt := 26) C dX6_isNearSecret_72 (by decide) ?_
                    exact ih26 _ _ _ hf
                  · refine s_iconst C dX6_isNearSecret_67 (v := (1 : Int32)) (by decide) ?_
                    exact s_zreturn C E dX6_isNearSecret_68 hf (Nat.le_of_ble_eq_true rfl) (Nat.le_of_ble_eq_true rfl)
        exact k26 lpN _ _ _ hf
  exact k2 lpN _ _ hf
/-- HillBoxes$Rules.askForKind(ILHillBoxes$Finder;II)V -/
noncomputable def f_X6_askForKind (o : Option Nat) (a1 : Int32) (a2 : Option Nat) (a3 : Int32) (a4 : Int32) (h : AH) : Option (Unit × AH) :=
  pI h [6] o 10 a1 fun h1 =>
  pR h1 [6] o 11 a2 fun h2 =>
  pR h2 [6] o 12 none fun h3 =>
  pI h3 [6] o 13 a3 fun h4 =>
  pI h4 [6] o 14 a4 fun h5 =>
  pI h5 [6] o 15 (0 : Int32) fun h6 =>
  some ((), h6)
set_option maxRecDepth 100000 in
set_option maxHeartbeats 4000000 in
theorem c_X6_askForKind (l : Launch) (D : DT) (o : Option Nat) (a1 : Int32) (a2 : Option Nat) (a3 : Int32) (a4 : Int32) (h : AH) (r : Unit × AH) (hf : f_X6_askForKind o a1 a2 a3 a4 h = some r) : CM l D yX6_askForKind cX6_askForKind 5 none 0 0 0 0 [.inr (.inr o), .inl a1, .inr (.inr a2), .inl a3, .inl a4] h none r.2 := by
  refine CM.of (by decide) (Nat.le_of_ble_eq_true rfl) (fun X hl C hD hX hnm E => ?_)
  subst hl
  subst hD
  have C : CX X RX6 cX6_askForKind 5 := C
  show WW X h 0 0 0 [some (rB (xD X).1 o), some (.int a1), some (rB (xD X).1 a2), some (.int a3), some (.int a4)] []
  unfold f_X6_askForKind at hf
  refine s_aload_n C dX6_askForKind_0 rfl ?_
  refine s_iload_n C dX6_askForKind_1 rfl ?_
  refine s_putI C fl_X6_64 (by decide) dX6_askForKind_2 hf (fun h1 hf => ?_)
  refine s_aload_n C dX6_askForKind_5 rfl ?_
  refine s_aload_n C dX6_askForKind_6 rfl ?_
  refine s_putR C fl_X6_67 dX6_askForKind_7 hf (fun h2 hf => ?_)
  refine s_aload_n C dX6_askForKind_10 rfl ?_
  refine s_null C dX6_askForKind_11 ?_
  refine s_putR C fl_X6_71 dX6_askForKind_12 hf (fun h3 hf => ?_)
  refine s_aload_n C dX6_askForKind_15 rfl ?_
  refine s_iload_n C dX6_askForKind_16 rfl ?_
  refine s_putI C fl_X6_80 (by decide) dX6_askForKind_17 hf (fun h4 hf => ?_)
  refine s_aload_n C dX6_askForKind_20 rfl ?_
  refine s_iload C dX6_askForKind_21 rfl ?_
  refine s_putI C fl_X6_86 (by decide) dX6_askForKind_23 hf (fun h5 hf => ?_)
  refine s_aload_n C dX6_askForKind_26 rfl ?_
  refine s_iconst C dX6_askForKind_27 (v := (0 : Int32)) (by decide) ?_
  refine s_putI C fl_X6_89 (by decide) dX6_askForKind_28 hf (fun h6 hf => ?_)
  exact s_return C E dX6_askForKind_31 hf (Nat.le_of_ble_eq_true rfl) (Nat.le_of_ble_eq_true rfl)
/-- HillBoxes$Rules.leavesLet(LHillBoxes$Finder;II)Z -/
noncomputable def f_X6_leavesLet (o : Option Nat) (a1 : Option Nat) (a2 : Int32) (a3 : Int32) (h : AH) : Option (Int32 × AH) :=
  jn (fun (x1 : Int32) =>
    lp (fun _ _ => none) (fun (L21 : Int32 → AH → Option (Int32 × AH)) (x2 : Int32) (h3 : AH) =>
      if x1 ≤ x2 then
        rz (1 : Int32) h3
      else
        jn (fun (x4 : Int32) =>
          fR h3 [6] o 3 fun v5 =>
          fR h3 [3] v5 1 fun v6 =>
          aI h3 20 v6 x4 fun v7 =>
          fR h3 [6] o 3 fun v8 =>
          fI h3 [3] v8 0 fun v9 =>
          rO h3 [6] o <| cl (f_X6_askForKind o v9 a1 a2 x4 h3) fun _ h10 =>
          jn (fun (h11 : AH) =>
            L21 (x2 + 1) h11) fun j102 =>
          if v7 < 0 then
            j102 h10
          else
            fR h10 [6] o 3 fun v12 =>
            fI h10 [3] v12 0 fun v13 =>
            rO h10 [6] o <| cl (f_X6_answer o ((10 : Int32) + v7) v13 h10) fun v15 h14 =>
            if v15 = 0 then
              rz (0 : Int32) h14
            else
              j102 h14) fun j47 =>
        if 0 ≤ x2 then
          fR h3 [6] o 3 fun v16 =>
          fR h3 [3] v16 4 fun v17 =>
          aI h3 20 v17 x2 fun v18 =>
          j47 v18
        else
          j47 a3) lpN (-1 : Int32) h) fun j16 =>
  if a2 = (3 : Int32) then
    fR h [6] o 3 fun v19 =>
    fI h [3] v19 5 fun v20 =>
    j16 v20
  else
    j16 (0 : Int32)
set_option maxRecDepth 100000 in
set_option maxHeartbeats 4000000 in
theorem c_X6_leavesLet (l : Launch) (D : DT) (o : Option Nat) (a1 : Option Nat) (a2 : Int32) (a3 : Int32) (h : AH) (r : Int32 × AH) (hf : f_X6_leavesLet o a1 a2 a3 h = some r) : CM l D yX6_leavesLet cX6_leavesLet 8 (some .boolean) 5 121 0 0 [.inr (.inr o), .inr (.inr a1), .inl a2, .inl a3] h (some (.int r.1)) r.2 := by
  refine CM.of (by decide) (Nat.le_of_ble_eq_true rfl) (fun X hl C hD hX hnm E => ?_)
  subst hl
  subst hD
  have C : CX X RX6 cX6_leavesLet 8 := C
  show WW X h 0 0 0 [some (rB (xD X).1 o), some (rB (xD X).1 a1), some (.int a2), some (.int a3), none, none, none, none] []
  unfold f_X6_leavesLet at hf
  refine s_iload_n C dX6_leavesLet_0 rfl ?_
  refine s_iconst C dX6_leavesLet_1 (v := (3 : Int32)) (by decide) ?_
  refine s_jn hf (fun j16 e16 hf => ?_)
  have k16 : ∀ (x1 : Int32), j16 x1 = some r → WW X h 0 0 16 [some (rB (xD X).1 o), some (rB (xD X).1 a1), some (.int a2), some (.int a3), none, none, none, none] [.int x1] := by
    intro x1 hf
    rw [e16] at hf
    refine s_istore C dX6_leavesLet_16 (by decide) (nc_i rfl) (lv' := [some (rB (xD X).1 o), some (rB (xD X).1 a1), some (.int a2), some (.int a3), some (.int x1), none, none, none]) rfl ?_
    refine s_iconst C dX6_leavesLet_18 (v := (-1 : Int32)) (by decide) ?_
    refine s_istore C dX6_leavesLet_19 (by decide) (nc_i rfl) (lv' := [some (rB (xD X).1 o), some (rB (xD X).1 a1), some (.int a2), some (.int a3), some (.int x1), some (.int (-1 : Int32)), none, none]) rfl ?_
    refine s_lp2 hf (fun G21 z21 q21 hf => ?_)
    have k21 : ∀ (n : Nat) (x2 : Int32) (h3 : AH), G21 n x2 h3 = some r → WW X h3 0 0 21 [some (rB (xD X).1 o), some (rB (xD X).1 a1), some (.int a2), some (.int a3), some (.int x1), some (.int x2), none, none] [] := by
      intro n
      induction n with
      | zero =>
        intro x2 h3 hf
        rw [z21] at hf
        cases hf
      | succ n ih21 =>
        intro x2 h3 hf
        have hf := (q21 n x2 h3).symm.trans hf
        refine s_iload C dX6_leavesLet_21 rfl ?_
        refine s_iload C dX6_leavesLet_23 rfl ?_
        refine s_icmp_ge (tgt := 108) C dX6_leavesLet_25 (by decide) hf (fun hf => ?_) (fun hf => ?_)
        · refine s_iconst C dX6_leavesLet_108 (v := (1 : Int32)) (by decide) ?_
          exact s_zreturn C E dX6_leavesLet_109 hf (Nat.le_of_ble_eq_true rfl) (Nat.le_of_ble_eq_true rfl)
        · refine s_iload C dX6_leavesLet_28 rfl ?_
          refine s_jn hf (fun j47 e47 hf => ?_)
          have k47 : ∀ (x4 : Int32), j47 x4 = some r → WW X h3 0 0 47 [some (rB (xD X).1 o), some (rB (xD X).1 a1), some (.int a2), some (.int a3), some (.int x1), some (.int x2), none, none] [.int x4] := by
            intro x4 hf
            rw [e47] at hf
            refine s_istore C dX6_leavesLet_47 (by decide) (nc_i rfl) (lv' := [some (rB (xD X).1 o), some (rB (xD X).1 a1), some (.int a2), some (.int a3), some (.int x1), some (.int x2), some (.int x4), none]) rfl ?_
            refine s_aload_n C dX6_leavesLet_49 rfl ?_
            refine s_getR C fl_X6_41 dX6_leavesLet_50 hf (fun v5 hf => ?_)
            refine s_getR C fl_X6_157 dX6_leavesLet_53 hf (fun v6 hf => ?_)
            refine s_iload C dX6_leavesLet_56 rfl ?_
            refine s_iaload C dX6_leavesLet_58 hf (fun v7 hf => ?_)
            refine s_istore C dX6_leavesLet_59 (by decide) (nc_i rfl) (lv' := [some (rB (xD X).1 o), some (rB (xD X).1 a1), some (.int a2), some (.int a3), some (.int x1), some (.int x2), some (.int x4), some (.int v7)]) rfl ?_
            refine s_aload_n C dX6_leavesLet_61 rfl ?_
            refine s_aload_n C dX6_leavesLet_62 rfl ?_
            refine s_getR C fl_X6_41 dX6_leavesLet_63 hf (fun v8 hf => ?_)
            refine s_getI C fl_X6_55 dX6_leavesLet_66 hf (fun v9 hf => ?_)
            refine s_aload_n C dX6_leavesLet_69 rfl ?_
            refine s_iload_n C dX6_leavesLet_70 rfl ?_
            refine s_iload C dX6_leavesLet_71 rfl ?_
            refine s_callV (rvf := fun _ => none) (st := []) (fr := 0) (lo := 0) (mc := 0) (ms := 0) C [6] wc_X6_askForKind wml_X6_112 wim_X6_askForKind wsl_6_X6_askForKind dX6_leavesLet_73 (As := [.inl v9, .inr (.inr a1), .inl a2, .inl x4]) rfl hf (fun x h' hF => c_X6_askForKind _ _ _ _ _ _ _ _ (x, h') hF) rfl (Nat.le_of_ble_eq_true rfl) (room_ok hX (Nat.le_of_ble_eq_true rfl) (Nat.le_of_ble_eq_true rfl)) (cell_ok hX (Nat.le_of_ble_eq_true rfl) (Nat.le_of_ble_eq_true rfl)) (fun _ h10 hf => ?_)
            refine s_iload C dX6_leavesLet_76 rfl ?_
            refine s_jn hf (fun j102 e102 hf => ?_)
            have k102 : ∀ (h11 : AH), j102 h11 = some r → WW X h11 0 0 102 [some (rB (xD X).1 o), some (rB (xD X).1 a1), some (.int a2), some (.int a3), some (.int x1), some (.int x2), none, none] [] := by
              intro h11 hf
              rw [e102] at hf
              refine s_iinc C dX6_leavesLet_102 (v := (x2 + 1)) rfl rfl (by decide) (nc_i rfl) (lv' := [some (rB (xD X).1 o), some (rB (xD X).1 a1), some (.int a2), some (.int a3), some (.int x1), some (.int (x2 + 1)), none, none]) rfl ?_
              refine s_goto (tgt := 21) C dX6_leavesLet_105 (by decide) ?_
              exact ih21 _ _ hf
            refine s_if_lt (tgt := 102) C dX6_leavesLet_78 (by decide) hf (fun hf => ?_) (fun hf => ?_)
            · refine s_weak (lv' := [some (rB (xD X).1 o), some (rB (xD X).1 a1), some (.int a2), some (.int a3), some (.int x1), some (.int x2), none, none]) ⟨rfl, ⟨rfl, ⟨rfl, ⟨rfl, ⟨rfl, ⟨rfl, trivial⟩⟩⟩⟩⟩⟩ ?_
              exact k102 _ hf
            · refine s_aload_n C dX6_leavesLet_81 rfl ?_
              refine s_bipush C dX6_leavesLet_82 (v := (10 : Int32)) (by decide) ?_
              refine s_iload C dX6_leavesLet_84 rfl ?_
              refine s_iadd C dX6_leavesLet_86 ?_
              refine s_aload_n C dX6_leavesLet_87 rfl ?_
              refine s_getR C fl_X6_41 dX6_leavesLet_88 hf (fun v12 hf => ?_)
              refine s_getI C fl_X6_55 dX6_leavesLet_91 hf (fun v13 hf => ?_)
              refine s_callV (rvf := fun x => some (.int x)) (st := []) (fr := 4) (lo := 97) (mc := 0) (ms := 0) C [6] wc_X6_answer wml_X6_116 wim_X6_answer wsl_6_X6_answer dX6_leavesLet_94 (As := [.inl ((10 : Int32) + v7), .inl v13]) rfl hf (fun x h' hF => c_X6_answer _ _ _ _ _ _ (x, h') hF) rfl (Nat.le_of_ble_eq_true rfl) (room_ok hX (Nat.le_of_ble_eq_true rfl) (Nat.le_of_ble_eq_true rfl)) (cell_ok hX (Nat.le_of_ble_eq_true rfl) (Nat.le_of_ble_eq_true rfl)) (fun v15 h14 hf => ?_)
              refine s_if_ne (tgt := 102) C dX6_leavesLet_97 (by decide) hf (fun hf => ?_) (fun hf => ?_)
              · refine s_weak (lv' := [some (rB (xD X).1 o), some (rB (xD X).1 a1), some (.int a2), some (.int a3), some (.int x1), some (.int x2), none, none]) ⟨rfl, ⟨rfl, ⟨rfl, ⟨rfl, ⟨rfl, ⟨rfl, trivial⟩⟩⟩⟩⟩⟩ ?_
                exact k102 _ hf
              · refine s_iconst C dX6_leavesLet_100 (v := (0 : Int32)) (by decide) ?_
                exact s_zreturn C E dX6_leavesLet_101 hf (Nat.le_of_ble_eq_true rfl) (Nat.le_of_ble_eq_true rfl)
          refine s_if_ge (tgt := 37) C dX6_leavesLet_30 (by decide) hf (fun hf => ?_) (fun hf => ?_)
          · refine s_aload_n C dX6_leavesLet_37 rfl ?_
            refine s_getR C fl_X6_41 dX6_leavesLet_38 hf (fun v16 hf => ?_)
            refine s_getR C fl_X6_147 dX6_leavesLet_41 hf (fun v17 hf => ?_)
            refine s_iload C dX6_leavesLet_44 rfl ?_
            refine s_iaload C dX6_leavesLet_46 hf (fun v18 hf => ?_)
            exact k47 _ hf
          · refine s_iload_n C dX6_leavesLet_33 rfl ?_
            refine s_goto (tgt := 47) C dX6_leavesLet_34 (by decide) ?_
            exact k47 _ hf
    exact k21 lpN _ _ hf
  refine s_icmp_ne (tgt := 15) C dX6_leavesLet_2 (by decide) hf (fun hf => ?_) (fun hf => ?_)
  · refine s_iconst C dX6_leavesLet_15 (v := (0 : Int32)) (by decide) ?_
    exact k16 _ hf
  · refine s_aload_n C dX6_leavesLet_5 rfl ?_
    refine s_getR C fl_X6_41 dX6_leavesLet_6 hf (fun v19 hf => ?_)
    refine s_getI C fl_X6_144 dX6_leavesLet_9 hf (fun v20 hf => ?_)
    refine s_goto (tgt := 16) C dX6_leavesLet_12 (by decide) ?_
    exact k16 _ hf
/-- HillBoxes$Rules.letsHide(LHillBoxes$Finder;II)Z -/
noncomputable def f_X6_letsHide (o : Option Nat) (a1 : Option Nat) (a2 : Int32) (a3 : Int32) (h : AH) : Option (Int32 × AH) :=
  fR h [6] o 3 fun v1 =>
  fI h [3] v1 0 fun v2 =>
  rO h [6] o <| cl (f_X6_askForKind o v2 a1 a2 a3 h) fun _ h3 =>
  fR h3 [6] o 3 fun v4 =>
  fI h3 [3] v4 0 fun v5 =>
  rO h3 [6] o <| cl (f_X6_answer o (1 : Int32) v5 h3) fun v7 h6 =>
  jn (fun (x8 : Int32) =>
    rz x8 h6) fun j34 =>
  if v7 = 0 then
    j34 (0 : Int32)
  else
    j34 (1 : Int32)
set_option maxRecDepth 100000 in
set_option maxHeartbeats 4000000 in
theorem c_X6_letsHide (l : Launch) (D : DT) (o : Option Nat) (a1 : Option Nat) (a2 : Int32) (a3 : Int32) (h : AH) (r : Int32 × AH) (hf : f_X6_letsHide o a1 a2 a3 h = some r) : CM l D yX6_letsHide cX6_letsHide 4 (some .boolean) 5 121 0 0 [.inr (.inr o), .inr (.inr a1), .inl a2, .inl a3] h (some (.int r.1)) r.2 := by
  refine CM.of (by decide) (Nat.le_of_ble_eq_true rfl) (fun X hl C hD hX hnm E => ?_)
  subst hl
  subst hD
  have C : CX X RX6 cX6_letsHide 4 := C
  show WW X h 0 0 0 [some (rB (xD X).1 o), some (rB (xD X).1 a1), some (.int a2), some (.int a3)] []
  unfold f_X6_letsHide at hf
  refine s_aload_n C dX6_letsHide_0 rfl ?_
  refine s_aload_n C dX6_letsHide_1 rfl ?_
  refine s_getR C fl_X6_41 dX6_letsHide_2 hf (fun v1 hf => ?_)
  refine s_getI C fl_X6_55 dX6_letsHide_5 hf (fun v2 hf => ?_)
  refine s_aload_n C dX6_letsHide_8 rfl ?_
  refine s_iload_n C dX6_letsHide_9 rfl ?_
  refine s_iload_n C dX6_letsHide_10 rfl ?_
  refine s_callV (rvf := fun _ => none) (st := []) (fr := 0) (lo := 0) (mc := 0) (ms := 0) C [6] wc_X6_askForKind wml_X6_112 wim_X6_askForKind wsl_6_X6_askForKind dX6_letsHide_11 (As := [.inl v2, .inr (.inr a1), .inl a2, .inl a3]) rfl hf (fun x h' hF => c_X6_askForKind _ _ _ _ _ _ _ _ (x, h') hF) rfl (Nat.le_of_ble_eq_true rfl) (room_ok hX (Nat.le_of_ble_eq_true rfl) (Nat.le_of_ble_eq_true rfl)) (cell_ok hX (Nat.le_of_ble_eq_true rfl) (Nat.le_of_ble_eq_true rfl)) (fun _ h3 hf => ?_)
  refine s_aload_n C dX6_letsHide_14 rfl ?_
  refine s_iconst C dX6_letsHide_15 (v := (1 : Int32)) (by decide) ?_
  refine s_aload_n C dX6_letsHide_16 rfl ?_
  refine s_getR C fl_X6_41 dX6_letsHide_17 hf (fun v4 hf => ?_)
  refine s_getI C fl_X6_55 dX6_letsHide_20 hf (fun v5 hf => ?_)
  refine s_callV (rvf := fun x => some (.int x)) (st := []) (fr := 4) (lo := 97) (mc := 0) (ms := 0) C [6] wc_X6_answer wml_X6_116 wim_X6_answer wsl_6_X6_answer dX6_letsHide_23 (As := [.inl (1 : Int32), .inl v5]) rfl hf (fun x h' hF => c_X6_answer _ _ _ _ _ _ (x, h') hF) rfl (Nat.le_of_ble_eq_true rfl) (room_ok hX (Nat.le_of_ble_eq_true rfl) (Nat.le_of_ble_eq_true rfl)) (cell_ok hX (Nat.le_of_ble_eq_true rfl) (Nat.le_of_ble_eq_true rfl)) (fun v7 h6 hf => ?_)
  refine s_jn hf (fun j34 e34 hf => ?_)
  have k34 : ∀ (x8 : Int32), j34 x8 = some r → WW X h6 0 0 34 [none, none, none, none] [.int x8] := by
    intro x8 hf
    rw [e34] at hf
    exact s_zreturn C E dX6_letsHide_34 hf (Nat.le_of_ble_eq_true rfl) (Nat.le_of_ble_eq_true rfl)
  refine s_if_eq (tgt := 33) C dX6_letsHide_26 (by decide) hf (fun hf => ?_) (fun hf => ?_)
  · refine s_iconst C dX6_letsHide_33 (v := (0 : Int32)) (by decide) ?_
    refine s_weak (lv' := [none, none, none, none]) trivial ?_
    exact k34 _ hf
  · refine s_iconst C dX6_letsHide_29 (v := (1 : Int32)) (by decide) ?_
    refine s_goto (tgt := 34) C dX6_letsHide_30 (by decide) ?_
    refine s_weak (lv' := [none, none, none, none]) trivial ?_
    exact k34 _ hf
/-- HillBoxes$Rules.whyNot(LHillBoxes$Finder;II)I -/
noncomputable def f_X6_whyNot (o : Option Nat) (a1 : Option Nat) (a2 : Int32) (a3 : Int32) (h : AH) : Option (Int32 × AH) :=
  rO h [2] a1 <| cl (f_X2_hasLeft a1 h) fun v2 h1 =>
  jn (fun (h3 : AH) =>
    some ((1 : Int32), h3)) fun j17 =>
  if v2 = 0 then
    rO h1 [6] o <| cl (f_X6_letsHide o a1 a2 a3 h1) fun v5 h4 =>
    if v5 = 0 then
      j17 h4
    else
      rO h4 [6] o <| cl (f_X6_leavesLet o a1 a2 a3 h4) fun v7 h6 =>
      if v7 = 0 then
        some ((2 : Int32), h6)
      else
        fR h6 [6] o 3 fun v8 =>
        fI h6 [3] v8 0 fun v9 =>
        rO h6 [6] o <| cl (f_X6_askForBox o v9 none none (0 : Int32) h6) fun _ h10 =>
        fR h10 [6] o 3 fun v11 =>
        fI h10 [3] v11 0 fun v12 =>
        rO h10 [6] o <| cl (f_X6_answer o (0 : Int32) v12 h10) fun v14 h13 =>
        fR h13 [6] o 3 fun v15 =>
        fI h13 [3] v15 5 fun v16 =>
        jn (fun (x17 : Int32) =>
          rO h13 [6] o <| cl (f_X6_isNearKnown o x17 v14 h13) fun v19 h18 =>
          if v19 = 0 then
            rO h18 [6] o <| cl (f_X6_isNearSecret o x17 v14 h18) fun v21 h20 =>
            jn (fun (x22 : Int32) =>
              some (x22, h20)) fun j125 =>
            if v21 = 0 then
              j125 (0 : Int32)
            else
              j125 (4 : Int32)
          else
            some ((3 : Int32), h18)) fun j94 =>
        jn (
          j94 a3) fun j93 =>
        if a2 = (3 : Int32) then
          if (v16 - (1 : Int32)) < 0 then
            j93
          else
            fR h13 [6] o 3 fun v23 =>
            fR h13 [3] v23 4 fun v24 =>
            aI h13 20 v24 (v16 - (1 : Int32)) fun v25 =>
            j94 v25
        else
          j93
  else
    j17 h1
set_option maxRecDepth 100000 in
set_option maxHeartbeats 4000000 in
theorem c_X6_whyNot (l : Launch) (D : DT) (o : Option Nat) (a1 : Option Nat) (a2 : Int32) (a3 : Int32) (h : AH) (r : Int32 × AH) (hf : f_X6_whyNot o a1 a2 a3 h = some r) : CM l D yX6_whyNot cX6_whyNot 7 (some .int) 6 148 0 0 [.inr (.inr o), .inr (.inr a1), .inl a2, .inl a3] h (some (.int r.1)) r.2 := by
  refine CM.of (by decide) (Nat.le_of_ble_eq_true rfl) (fun X hl C hD hX hnm E => ?_)
  subst hl
  subst hD
  have C : CX X RX6 cX6_whyNot 7 := C
  show WW X h 0 0 0 [some (rB (xD X).1 o), some (rB (xD X).1 a1), some (.int a2), some (.int a3), none, none, none] []
  unfold f_X6_whyNot at hf
  refine s_aload_n C dX6_whyNot_0 rfl ?_
  refine s_callV (rvf := fun x => some (.int x)) (st := []) (fr := 0) (lo := 0) (mc := 0) (ms := 0) C [2] wc_X2_hasLeft wml_X6_131 wim_X2_hasLeft wsl_2_X2_hasLeft dX6_whyNot_1 (As := []) rfl hf (fun x h' hF => c_X2_hasLeft _ _ _ _ (x, h') hF) rfl (Nat.le_of_ble_eq_true rfl) (room_ok hX (Nat.le_of_ble_eq_true rfl) (Nat.le_of_ble_eq_true rfl)) (cell_ok hX (Nat.le_of_ble_eq_true rfl) (Nat.le_of_ble_eq_true rfl)) (fun v2 h1 hf => ?_)
  refine s_jn hf (fun j17 e17 hf => ?_)
  have k17 : ∀ (h3 : AH), j17 h3 = some r → WW X h3 0 0 17 [none, none, none, none, none, none, none] [] := by
    intro h3 hf
    rw [e17] at hf
    refine s_iconst C dX6_whyNot_17 (v := (1 : Int32)) (by decide) ?_
    exact s_ireturn C E dX6_whyNot_18 hf (Nat.le_of_ble_eq_true rfl) (Nat.le_of_ble_eq_true rfl)
  refine s_if_ne (tgt := 17) C dX6_whyNot_4 (by decide) hf (fun hf => ?_) (fun hf => ?_)
  · refine s_weak (lv' := [none, none, none, none, none, none, none]) trivial ?_
    exact k17 _ hf
  · refine s_aload_n C dX6_whyNot_7 rfl ?_
    refine s_aload_n C dX6_whyNot_8 rfl ?_
    refine s_iload_n C dX6_whyNot_9 rfl ?_
    refine s_iload_n C dX6_whyNot_10 rfl ?_
    refine s_callV (rvf := fun x => some (.int x)) (st := []) (fr := 5) (lo := 121) (mc := 0) (ms := 0) C [6] wc_X6_letsHide wml_X6_137 wim_X6_letsHide wsl_6_X6_letsHide dX6_whyNot_11 (As := [.inr (.inr a1), .inl a2, .inl a3]) rfl hf (fun x h' hF => c_X6_letsHide _ _ _ _ _ _ _ (x, h') hF) rfl (Nat.le_of_ble_eq_true rfl) (room_ok hX (Nat.le_of_ble_eq_true rfl) (Nat.le_of_ble_eq_true rfl)) (cell_ok hX (Nat.le_of_ble_eq_true rfl) (Nat.le_of_ble_eq_true rfl)) (fun v5 h4 hf => ?_)
    refine s_if_ne (tgt := 19) C dX6_whyNot_14 (by decide) hf (fun hf => ?_) (fun hf => ?_)
    · refine s_aload_n C dX6_whyNot_19 rfl ?_
      refine s_aload_n C dX6_whyNot_20 rfl ?_
      refine s_iload_n C dX6_whyNot_21 rfl ?_
      refine s_iload_n C dX6_whyNot_22 rfl ?_
      refine s_callV (rvf := fun x => some (.int x)) (st := []) (fr := 5) (lo := 121) (mc := 0) (ms := 0) C [6] wc_X6_leavesLet wml_X6_141 wim_X6_leavesLet wsl_6_X6_leavesLet dX6_whyNot_23 (As := [.inr (.inr a1), .inl a2, .inl a3]) rfl hf (fun x h' hF => c_X6_leavesLet _ _ _ _ _ _ _ (x, h') hF) rfl (Nat.le_of_ble_eq_true rfl) (room_ok hX (Nat.le_of_ble_eq_true rfl) (Nat.le_of_ble_eq_true rfl)) (cell_ok hX (Nat.le_of_ble_eq_true rfl) (Nat.le_of_ble_eq_true rfl)) (fun v7 h6 hf => ?_)
      refine s_if_ne (tgt := 31) C dX6_whyNot_26 (by decide) hf (fun hf => ?_) (fun hf => ?_)
      · refine s_aload_n C dX6_whyNot_31 rfl ?_
        refine s_aload_n C dX6_whyNot_32 rfl ?_
        refine s_getR C fl_X6_41 dX6_whyNot_33 hf (fun v8 hf => ?_)
        refine s_getI C fl_X6_55 dX6_whyNot_36 hf (fun v9 hf => ?_)
        refine s_null C dX6_whyNot_39 ?_
        refine s_null C dX6_whyNot_40 ?_
        refine s_iconst C dX6_whyNot_41 (v := (0 : Int32)) (by decide) ?_
        refine s_callV (rvf := fun _ => none) (st := []) (fr := 0) (lo := 0) (mc := 0) (ms := 0) C [6] wc_X6_askForBox wml_X6_119 wim_X6_askForBox wsl_6_X6_askForBox dX6_whyNot_42 (As := [.inl v9, .inr (.inr none), .inr (.inr none), .inl (0 : Int32)]) rfl hf (fun x h' hF => c_X6_askForBox _ _ _ _ _ _ _ _ (x, h') hF) rfl (Nat.le_of_ble_eq_true rfl) (room_ok hX (Nat.le_of_ble_eq_true rfl) (Nat.le_of_ble_eq_true rfl)) (cell_ok hX (Nat.le_of_ble_eq_true rfl) (Nat.le_of_ble_eq_true rfl)) (fun _ h10 hf => ?_)
        refine s_aload_n C dX6_whyNot_45 rfl ?_
        refine s_iconst C dX6_whyNot_46 (v := (0 : Int32)) (by decide) ?_
        refine s_aload_n C dX6_whyNot_47 rfl ?_
        refine s_getR C fl_X6_41 dX6_whyNot_48 hf (fun v11 hf => ?_)
        refine s_getI C fl_X6_55 dX6_whyNot_51 hf (fun v12 hf => ?_)
        refine s_callV (rvf := fun x => some (.int x)) (st := []) (fr := 4) (lo := 97) (mc := 0) (ms := 0) C [6] wc_X6_answer wml_X6_116 wim_X6_answer wsl_6_X6_answer dX6_whyNot_54 (As := [.inl (0 : Int32), .inl v12]) rfl hf (fun x h' hF => c_X6_answer _ _ _ _ _ _ (x, h') hF) rfl (Nat.le_of_ble_eq_true rfl) (room_ok hX (Nat.le_of_ble_eq_true rfl) (Nat.le_of_ble_eq_true rfl)) (cell_ok hX (Nat.le_of_ble_eq_true rfl) (Nat.le_of_ble_eq_true rfl)) (fun v14 h13 hf => ?_)
        refine s_istore C dX6_whyNot_57 (by decide) (nc_i rfl) (lv' := [some (rB (xD X).1 o), some (rB (xD X).1 a1), some (.int a2), some (.int a3), some (.int v14), none, none]) rfl ?_
        refine s_aload_n C dX6_whyNot_59 rfl ?_
        refine s_getR C fl_X6_41 dX6_whyNot_60 hf (fun v15 hf => ?_)
        refine s_getI C fl_X6_144 dX6_whyNot_63 hf (fun v16 hf => ?_)
        refine s_iconst C dX6_whyNot_66 (v := (1 : Int32)) (by decide) ?_
        refine s_isub C dX6_whyNot_67 ?_
        refine s_istore C dX6_whyNot_68 (by decide) (nc_i rfl) (lv' := [some (rB (xD X).1 o), some (rB (xD X).1 a1), some (.int a2), some (.int a3), some (.int v14), some (.int (v16 - (1 : Int32))), none]) rfl ?_
        refine s_iload_n C dX6_whyNot_70 rfl ?_
        refine s_iconst C dX6_whyNot_71 (v := (3 : Int32)) (by decide) ?_
        refine s_jn hf (fun j94 e94 hf => ?_)
        have k94 : ∀ (x17 : Int32), j94 x17 = some r → WW X h13 0 0 94 [some (rB (xD X).1 o), none, none, none, some (.int v14), none, none] [.int x17] := by
          intro x17 hf
          rw [e94] at hf
          refine s_istore C dX6_whyNot_94 (by decide) (nc_n rfl) (lv' := [some (rB (xD X).1 o), none, none, none, some (.int v14), none, some (.int x17)]) rfl ?_
          refine s_aload_n C dX6_whyNot_96 rfl ?_
          refine s_iload C dX6_whyNot_97 rfl ?_
          refine s_iload C dX6_whyNot_99 rfl ?_
          refine s_callV (rvf := fun x => some (.int x)) (st := []) (fr := 2) (lo := 42) (mc := 0) (ms := 0) C [6] wc_X6_isNearKnown wml_X6_150 wim_X6_isNearKnown wsl_6_X6_isNearKnown dX6_whyNot_101 (As := [.inl x17, .inl v14]) rfl hf (fun x h' hF => c_X6_isNearKnown _ _ _ _ _ _ (x, h') hF) rfl (Nat.le_of_ble_eq_true rfl) (room_ok hX (Nat.le_of_ble_eq_true rfl) (Nat.le_of_ble_eq_true rfl)) (cell_ok hX (Nat.le_of_ble_eq_true rfl) (Nat.le_of_ble_eq_true rfl)) (fun v19 h18 hf => ?_)
          refine s_if_eq (tgt := 109) C dX6_whyNot_104 (by decide) hf (fun hf => ?_) (fun hf => ?_)
          · refine s_aload_n C dX6_whyNot_109 rfl ?_
            refine s_iload C dX6_whyNot_110 rfl ?_
            refine s_iload C dX6_whyNot_112 rfl ?_
            refine s_callV (rvf := fun x => some (.int x)) (st := []) (fr := 2) (lo := 42) (mc := 0) (ms := 0) C [6] wc_X6_isNearSecret wml_X6_154 wim_X6_isNearSecret wsl_6_X6_isNearSecret dX6_whyNot_114 (As := [.inl x17, .inl v14]) rfl hf (fun x h' hF => c_X6_isNearSecret _ _ _ _ _ _ (x, h') hF) rfl (Nat.le_of_ble_eq_true rfl) (room_ok hX (Nat.le_of_ble_eq_true rfl) (Nat.le_of_ble_eq_true rfl)) (cell_ok hX (Nat.le_of_ble_eq_true rfl) (Nat.le_of_ble_eq_true rfl)) (fun v21 h20 hf => ?_)
            refine s_jn hf (fun j125 e125 hf => ?_)
            have k125 : ∀ (x22 : Int32), j125 x22 = some r → WW X h20 0 0 125 [none, none, none, none, none, none, none] [.int x22] := by
              intro x22 hf
              rw [e125] at hf
              exact s_ireturn C E dX6_whyNot_125 hf (Nat.le_of_ble_eq_true rfl) (Nat.le_of_ble_eq_true rfl)
            refine s_if_eq (tgt := 124) C dX6_whyNot_117 (by decide) hf (fun hf => ?_) (fun hf => ?_)
            · refine s_iconst C dX6_whyNot_124 (v := (0 : Int32)) (by decide) ?_
              refine s_weak (lv' := [none, none, none, none, none, none, none]) trivial ?_
              exact k125 _ hf
            · refine s_iconst C dX6_whyNot_120 (v := (4 : Int32)) (by decide) ?_
              refine s_goto (tgt := 125) C dX6_whyNot_121 (by decide) ?_
              refine s_weak (lv' := [none, none, none, none, none, none, none]) trivial ?_
              exact k125 _ hf
          · refine s_iconst C dX6_whyNot_107 (v := (3 : Int32)) (by decide) ?_
            exact s_ireturn C E dX6_whyNot_108 hf (Nat.le_of_ble_eq_true rfl) (Nat.le_of_ble_eq_true rfl)
        refine s_jn hf (fun j93 e93 hf => ?_)
        have k93 : j93  = some r → WW X h13 0 0 93 [some (rB (xD X).1 o), none, none, some (.int a3), some (.int v14), none, none] [] := by
          intro  hf
          rw [e93] at hf
          refine s_iload_n C dX6_whyNot_93 rfl ?_
          refine s_weak (lv' := [some (rB (xD X).1 o), none, none, none, some (.int v14), none, none]) ⟨rfl, ⟨rfl, trivial⟩⟩ ?_
          exact k94 _ hf
        refine s_icmp_ne (tgt := 93) C dX6_whyNot_72 (by decide) hf (fun hf => ?_) (fun hf => ?_)
        · refine s_weak (lv' := [some (rB (xD X).1 o), none, none, some (.int a3), some (.int v14), none, none]) ⟨rfl, ⟨rfl, ⟨rfl, trivial⟩⟩⟩ ?_
          exact k93 hf
        · refine s_iload C dX6_whyNot_75 rfl ?_
          refine s_if_lt (tgt := 93) C dX6_whyNot_77 (by decide) hf (fun hf => ?_) (fun hf => ?_)
          · refine s_weak (lv' := [some (rB (xD X).1 o), none, none, some (.int a3), some (.int v14), none, none]) ⟨rfl, ⟨rfl, ⟨rfl, trivial⟩⟩⟩ ?_
            exact k93 hf
          · refine s_aload_n C dX6_whyNot_80 rfl ?_
            refine s_getR C fl_X6_41 dX6_whyNot_81 hf (fun v23 hf => ?_)
            refine s_getR C fl_X6_147 dX6_whyNot_84 hf (fun v24 hf => ?_)
            refine s_iload C dX6_whyNot_87 rfl ?_
            refine s_iaload C dX6_whyNot_89 hf (fun v25 hf => ?_)
            refine s_goto (tgt := 94) C dX6_whyNot_90 (by decide) ?_
            refine s_weak (lv' := [some (rB (xD X).1 o), none, none, none, some (.int v14), none, none]) ⟨rfl, ⟨rfl, trivial⟩⟩ ?_
            exact k94 _ hf
      · refine s_iconst C dX6_whyNot_29 (v := (2 : Int32)) (by decide) ?_
        exact s_ireturn C E dX6_whyNot_30 hf (Nat.le_of_ble_eq_true rfl) (Nat.le_of_ble_eq_true rfl)
    · refine s_weak (lv' := [none, none, none, none, none, none, none]) trivial ?_
      exact k17 _ hf
/-- HillBoxes.hide(III)I -/
noncomputable def f_X11_hide (o : Option Nat) (a1 : Int32) (a2 : Int32) (a3 : Int32) (h : AH) : Option (Int32 × AH) :=
  fR h [11] o 0 fun v1 =>
  rO h [3] v1 <| cl (f_X3_finderAt v1 a1 h) fun v3 h2 =>
  jn (fun (h4 : AH) =>
    some ((-1 : Int32), h4)) fun j24 =>
  if v3 = none then
    j24 h2
  else
    rO h2 [11] o <| cl (f_X11_mayBeAsked o a2 a3 h2) fun v6 h5 =>
    if v6 = 0 then
      j24 h5
    else
      fR h5 [11] o 1 fun v7 =>
      rO h5 [6] v7 <| cl (f_X6_whyNot v7 v3 a2 a3 h5) fun v9 h8 =>
      if v9 = 0 then
        fR h8 [11] o 0 fun v10 =>
        rO h8 [3] v10 <| cl (f_X3_isFull v10 h8) fun v12 h11 =>
        if v12 = 0 then
          nO h11 1 19 fun v13 h14 =>
          fR h14 [11] o 0 fun v15 =>
          fI h14 [3] v15 3 fun v16 =>
          fI h14 [2] v3 0 fun v17 =>
          fR h14 [11] o 0 fun v18 =>
          fI h14 [3] v18 0 fun v19 =>
          rO h14 [1] v13 <| cl (f_X1_init v13 v16 a2 v17 a3 v19 h14) fun _ h20 =>
          jn (fun (h21 : AH) =>
            fR h21 [11] o 0 fun v22 =>
            pI h21 [3] v22 5 (0 : Int32) fun h23 =>
            fR h23 [11] o 0 fun v24 =>
            rO h23 [3] v24 <| cl (f_X3_enter v24 v13 h23) fun v26 h25 =>
            some (v26, h25)) fun j120 =>
          if a2 = (3 : Int32) then
            fR h20 [11] o 0 fun v27 =>
            fR h20 [3] v27 4 fun v28 =>
            fR h20 [11] o 0 fun v29 =>
            fI h20 [3] v29 5 fun v30 =>
            rO h20 [1] v13 <| cl (f_X1_takeSteps v13 v28 v30 h20) fun _ h31 =>
            j120 h31
          else
            j120 h20
        else
          some ((-3 : Int32), h11)
      else
        cl (f_X11_asToldToTheAsker v9 h8) fun v33 h32 =>
        some (((-20 : Int32) - v33), h32)
set_option maxRecDepth 100000 in
set_option maxHeartbeats 4000000 in
theorem c_X11_hide (l : Launch) (D : DT) (o : Option Nat) (a1 : Int32) (a2 : Int32) (a3 : Int32) (h : AH) (r : Int32 × AH) (hf : f_X11_hide o a1 a2 a3 h = some r) : CM l D yX11_hide cX11_hide 7 (some .int) 7 174 11 132 [.inr (.inr o), .inl a1, .inl a2, .inl a3] h (some (.int r.1)) r.2 := by
  refine CM.of (by decide) (Nat.le_of_ble_eq_true rfl) (fun X hl C hD hX hnm E => ?_)
  subst hl
  subst hD
  have C : CX X RX11 cX11_hide 7 := C
  show WW X h 0 0 0 [some (rB (xD X).1 o), some (.int a1), some (.int a2), some (.int a3), none, none, none] []
  unfold f_X11_hide at hf
  refine s_aload_n C dX11_hide_0 rfl ?_
  refine s_getR C fl_X11_10 dX11_hide_1 hf (fun v1 hf => ?_)
  refine s_iload_n C dX11_hide_4 rfl ?_
  refine s_callV (rvf := fun x => some (rB (xD X).1 x)) (st := []) (fr := 0) (lo := 0) (mc := 0) (ms := 0) C [3] wc_X3_finderAt wml_X11_90 wim_X3_finderAt wsl_3_X3_finderAt dX11_hide_5 (As := [.inl a1]) rfl hf (fun x h' hF => c_X3_finderAt _ _ _ _ _ (x, h') hF) rfl (Nat.le_of_ble_eq_true rfl) (room_ok hX (Nat.le_of_ble_eq_true rfl) (Nat.le_of_ble_eq_true rfl)) (cell_ok hX (Nat.le_of_ble_eq_true rfl) (Nat.le_of_ble_eq_true rfl)) (fun v3 h2 hf => ?_)
  refine s_astore C dX11_hide_8 (by decide) (nc_i rfl) (lv' := [some (rB (xD X).1 o), some (.int a1), some (.int a2), some (.int a3), some (rB (xD X).1 v3), none, none]) rfl ?_
  refine s_aload C dX11_hide_10 rfl ?_
  refine s_jn hf (fun j24 e24 hf => ?_)
  have k24 : ∀ (h4 : AH), j24 h4 = some r → WW X h4 0 0 24 [none, none, none, none, none, none, none] [] := by
    intro h4 hf
    rw [e24] at hf
    refine s_iconst C dX11_hide_24 (v := (-1 : Int32)) (by decide) ?_
    exact s_ireturn C E dX11_hide_25 hf (Nat.le_of_ble_eq_true rfl) (Nat.le_of_ble_eq_true rfl)
  refine s_ifnull (tgt := 24) C dX11_hide_12 (by decide) hf (fun hf => ?_) (fun hf => ?_)
  · refine s_weak (lv' := [none, none, none, none, none, none, none]) trivial ?_
    exact k24 _ hf
  · refine s_aload_n C dX11_hide_15 rfl ?_
    refine s_iload_n C dX11_hide_16 rfl ?_
    refine s_iload_n C dX11_hide_17 rfl ?_
    refine s_callV (rvf := fun x => some (.int x)) (st := []) (fr := 1) (lo := 20) (mc := 0) (ms := 0) C [11] wc_X11_mayBeAsked wml_X11_106 wim_X11_mayBeAsked wsl_11_X11_mayBeAsked dX11_hide_18 (As := [.inl a2, .inl a3]) rfl hf (fun x h' hF => c_X11_mayBeAsked _ _ _ _ _ _ (x, h') hF) rfl (Nat.le_of_ble_eq_true rfl) (room_ok hX (Nat.le_of_ble_eq_true rfl) (Nat.le_of_ble_eq_true rfl)) (cell_ok hX (Nat.le_of_ble_eq_true rfl) (Nat.le_of_ble_eq_true rfl)) (fun v6 h5 hf => ?_)
    refine s_if_ne (tgt := 26) C dX11_hide_21 (by decide) hf (fun hf => ?_) (fun hf => ?_)
    · refine s_aload_n C dX11_hide_26 rfl ?_
      refine s_getR C fl_X11_21 dX11_hide_27 hf (fun v7 hf => ?_)
      refine s_aload C dX11_hide_30 rfl ?_
      refine s_iload_n C dX11_hide_32 rfl ?_
      refine s_iload_n C dX11_hide_33 rfl ?_
      refine s_callV (rvf := fun x => some (.int x)) (st := []) (fr := 6) (lo := 148) (mc := 0) (ms := 0) C [6] wc_X6_whyNot wml_X11_110 wim_X6_whyNot wsl_6_X6_whyNot dX11_hide_34 (As := [.inr (.inr v3), .inl a2, .inl a3]) rfl hf (fun x h' hF => c_X6_whyNot _ _ _ _ _ _ _ (x, h') hF) rfl (Nat.le_of_ble_eq_true rfl) (room_ok hX (Nat.le_of_ble_eq_true rfl) (Nat.le_of_ble_eq_true rfl)) (cell_ok hX (Nat.le_of_ble_eq_true rfl) (Nat.le_of_ble_eq_true rfl)) (fun v9 h8 hf => ?_)
      refine s_istore C dX11_hide_37 (by decide) (nc_r rfl) (lv' := [some (rB (xD X).1 o), some (.int a1), some (.int a2), some (.int a3), some (rB (xD X).1 v3), some (.int v9), none]) rfl ?_
      refine s_iload C dX11_hide_39 rfl ?_
      refine s_if_eq (tgt := 53) C dX11_hide_41 (by decide) hf (fun hf => ?_) (fun hf => ?_)
      · refine s_aload_n C dX11_hide_53 rfl ?_
        refine s_getR C fl_X11_10 dX11_hide_54 hf (fun v10 hf => ?_)
        refine s_callV (rvf := fun x => some (.int x)) (st := []) (fr := 0) (lo := 0) (mc := 0) (ms := 0) C [3] wc_X3_isFull wml_X11_64 wim_X3_isFull wsl_3_X3_isFull dX11_hide_57 (As := []) rfl hf (fun x h' hF => c_X3_isFull _ _ _ _ (x, h') hF) rfl (Nat.le_of_ble_eq_true rfl) (room_ok hX (Nat.le_of_ble_eq_true rfl) (Nat.le_of_ble_eq_true rfl)) (cell_ok hX (Nat.le_of_ble_eq_true rfl) (Nat.le_of_ble_eq_true rfl)) (fun v12 h11 hf => ?_)
        refine s_if_eq (tgt := 66) C dX11_hide_60 (by decide) hf (fun hf => ?_) (fun hf => ?_)
        · refine s_new C (t := 1) (n := 19) (by decide) rfl wcl_X11_118 wins_X1 wini_X1 dX11_hide_66 hf (cell1 hX (Nat.le_of_ble_eq_true rfl)) (cell2 hX (Nat.le_of_ble_eq_true rfl)) (fun v13 h14 hf => ?_)
          refine s_dup C dX11_hide_69 c1_r ?_
          refine s_aload_n C dX11_hide_70 rfl ?_
          refine s_getR C fl_X11_10 dX11_hide_71 hf (fun v15 hf => ?_)
          refine s_getI C fl_X11_70 dX11_hide_74 hf (fun v16 hf => ?_)
          refine s_iload_n C dX11_hide_77 rfl ?_
          refine s_aload C dX11_hide_78 rfl ?_
          refine s_getI C fl_X11_120 dX11_hide_80 hf (fun v17 hf => ?_)
          refine s_iload_n C dX11_hide_83 rfl ?_
          refine s_aload_n C dX11_hide_84 rfl ?_
          refine s_getR C fl_X11_10 dX11_hide_85 hf (fun v18 hf => ?_)
          refine s_getI C fl_X11_52 dX11_hide_88 hf (fun v19 hf => ?_)
          refine s_callI (st := [rB (xD X).1 v13]) (fr := 2) (lo := 42) (mc := 10) (ms := 113) C wc_X1_init wml_X11_123 wim_X1_init rfl dX11_hide_91 (As := [.inl v16, .inl a2, .inl v17, .inl a3, .inl v19]) rfl (a0 := 1) hf (fun h' hF => c_X1_init _ _ _ _ _ _ _ _ _ ((), h') hF) rfl (Nat.le_of_ble_eq_true rfl) (room_ok hX (Nat.le_of_ble_eq_true rfl) (Nat.le_of_ble_eq_true rfl)) (cell_ok hX (Nat.le_of_ble_eq_true rfl) (Nat.le_of_ble_eq_true rfl)) (fun h20 hf => ?_)
          refine s_astore C dX11_hide_94 (by decide) (nc_i rfl) (lv' := [some (rB (xD X).1 o), some (.int a1), some (.int a2), some (.int a3), some (rB (xD X).1 v3), some (.int v9), some (rB (xD X).1 v13)]) rfl ?_
          refine s_iload_n C dX11_hide_96 rfl ?_
          refine s_iconst C dX11_hide_97 (v := (3 : Int32)) (by decide) ?_
          refine s_jn hf (fun j120 e120 hf => ?_)
          have k120 : ∀ (h21 : AH), j120 h21 = some r → WW X h21 11 132 120 [some (rB (xD X).1 o), none, none, none, none, none, some (rB (xD X).1 v13)] [] := by
            intro h21 hf
            rw [e120] at hf
            refine s_aload_n C dX11_hide_120 rfl ?_
            refine s_getR C fl_X11_10 dX11_hide_121 hf (fun v22 hf => ?_)
            refine s_iconst C dX11_hide_124 (v := (0 : Int32)) (by decide) ?_
            refine s_putI C fl_X11_100 (by decide) dX11_hide_125 hf (fun h23 hf => ?_)
            refine s_aload_n C dX11_hide_128 rfl ?_
            refine s_getR C fl_X11_10 dX11_hide_129 hf (fun v24 hf => ?_)
            refine s_aload C dX11_hide_132 rfl ?_
            refine s_callV (rvf := fun x => some (.int x)) (st := []) (fr := 0) (lo := 0) (mc := 0) (ms := 0) C [3] wc_X3_enter wml_X11_81 wim_X3_enter wsl_3_X3_enter dX11_hide_134 (As := [.inr (.inr v13)]) rfl hf (fun x h' hF => c_X3_enter _ _ _ _ _ (x, h') hF) rfl (Nat.le_of_ble_eq_true rfl) (room_ok hX (Nat.le_of_ble_eq_true rfl) (Nat.le_of_ble_eq_true rfl)) (cell_ok hX (Nat.le_of_ble_eq_true rfl) (Nat.le_of_ble_eq_true rfl)) (fun v26 h25 hf => ?_)
            exact s_ireturn C E dX11_hide_137 hf (Nat.le_of_ble_eq_true rfl) (Nat.le_of_ble_eq_true rfl)
          refine s_icmp_ne (tgt := 120) C dX11_hide_98 (by decide) hf (fun hf => ?_) (fun hf => ?_)
          · refine s_weak (lv' := [some (rB (xD X).1 o), none, none, none, none, none, some (rB (xD X).1 v13)]) ⟨rfl, ⟨rfl, trivial⟩⟩ ?_
            exact k120 _ hf
          · refine s_aload C dX11_hide_101 rfl ?_
            refine s_aload_n C dX11_hide_103 rfl ?_
            refine s_getR C fl_X11_10 dX11_hide_104 hf (fun v27 hf => ?_)
            refine s_getR C fl_X11_103 dX11_hide_107 hf (fun v28 hf => ?_)
            refine s_aload_n C dX11_hide_110 rfl ?_
            refine s_getR C fl_X11_10 dX11_hide_111 hf (fun v29 hf => ?_)
            refine s_getI C fl_X11_100 dX11_hide_114 hf (fun v30 hf => ?_)
            refine s_callV (rvf := fun _ => none) (st := []) (fr := 0) (lo := 0) (mc := 0) (ms := 0) C [1] wc_X1_takeSteps wml_X11_126 wim_X1_takeSteps wsl_1_X1_takeSteps dX11_hide_117 (As := [.inr (.inr v28), .inl v30]) rfl hf (fun x h' hF => c_X1_takeSteps _ _ _ _ _ _ (x, h') hF) rfl (Nat.le_of_ble_eq_true rfl) (room_ok hX (Nat.le_of_ble_eq_true rfl) (Nat.le_of_ble_eq_true rfl)) (cell_ok hX (Nat.le_of_ble_eq_true rfl) (Nat.le_of_ble_eq_true rfl)) (fun _ h31 hf => ?_)
            refine s_weak (lv' := [some (rB (xD X).1 o), none, none, none, none, none, some (rB (xD X).1 v13)]) ⟨rfl, ⟨rfl, trivial⟩⟩ ?_
            exact k120 _ hf
        · refine s_bipush C dX11_hide_63 (v := (-3 : Int32)) (by decide) ?_
          exact s_ireturn C E dX11_hide_65 hf (Nat.le_of_ble_eq_true rfl) (Nat.le_of_ble_eq_true rfl)
      · refine s_bipush C dX11_hide_44 (v := (-20 : Int32)) (by decide) ?_
        refine s_iload C dX11_hide_46 rfl ?_
        refine s_callS (rvf := fun x => some (.int x)) (st := [.int (-20 : Int32)]) (fr := 0) (lo := 0) (mc := 0) (ms := 0) C wc_X11_asToldToTheAsker wml_X11_114 wst_X11_asToldToTheAsker dX11_hide_48 (As := [.inl v9]) rfl hf (fun x h' hF => c_X11_asToldToTheAsker _ _ _ _ (x, h') hF) rfl (Nat.le_of_ble_eq_true rfl) (room_ok hX (Nat.le_of_ble_eq_true rfl) (Nat.le_of_ble_eq_true rfl)) (cell_ok hX (Nat.le_of_ble_eq_true rfl) (Nat.le_of_ble_eq_true rfl)) (fun v33 h32 hf => ?_)
        refine s_isub C dX11_hide_51 ?_
        exact s_ireturn C E dX11_hide_52 hf (Nat.le_of_ble_eq_true rfl) (Nat.le_of_ble_eq_true rfl)
    · refine s_weak (lv' := [none, none, none, none, none, none, none]) trivial ?_
      exact k24 _ hf
/-- HillBoxes.isDay(I)Z -/
noncomputable def f_X11_isDay (a0 : Int32) (h : AH) : Option (Int32 × AH) :=
  jn (fun (x1 : Int32) =>
    rz x1 h) fun j16 =>
  jn (
    j16 (0 : Int32)) fun j15 =>
  if a0 < 0 then
    j15
  else
    if (999 : Int32) < a0 then
      j15
    else
      j16 (1 : Int32)
set_option maxRecDepth 100000 in
set_option maxHeartbeats 4000000 in
theorem c_X11_isDay (l : Launch) (D : DT) (a0 : Int32) (h : AH) (r : Int32 × AH) (hf : f_X11_isDay a0 h = some r) : CM l D yX11_isDay cX11_isDay 1 (some .boolean) 0 0 0 0 [.inl a0] h (some (.int r.1)) r.2 := by
  refine CM.of (by decide) (Nat.le_of_ble_eq_true rfl) (fun X hl C hD hX hnm E => ?_)
  subst hl
  subst hD
  have C : CX X RX11 cX11_isDay 1 := C
  show WW X h 0 0 0 [some (.int a0)] []
  unfold f_X11_isDay at hf
  refine s_iload_n C dX11_isDay_0 rfl ?_
  refine s_jn hf (fun j16 e16 hf => ?_)
  have k16 : ∀ (x1 : Int32), j16 x1 = some r → WW X h 0 0 16 [none] [.int x1] := by
    intro x1 hf
    rw [e16] at hf
    exact s_zreturn C E dX11_isDay_16 hf (Nat.le_of_ble_eq_true rfl) (Nat.le_of_ble_eq_true rfl)
  refine s_jn hf (fun j15 e15 hf => ?_)
  have k15 : j15  = some r → WW X h 0 0 15 [none] [] := by
    intro  hf
    rw [e15] at hf
    refine s_iconst C dX11_isDay_15 (v := (0 : Int32)) (by decide) ?_
    exact k16 _ hf
  refine s_if_lt (tgt := 15) C dX11_isDay_1 (by decide) hf (fun hf => ?_) (fun hf => ?_)
  · refine s_weak (lv' := [none]) trivial ?_
    exact k15 hf
  · refine s_iload_n C dX11_isDay_4 rfl ?_
    refine s_sipush C dX11_isDay_5 (v := (999 : Int32)) (by decide) ?_
    refine s_icmp_gt (tgt := 15) C dX11_isDay_8 (by decide) hf (fun hf => ?_) (fun hf => ?_)
    · refine s_weak (lv' := [none]) trivial ?_
      exact k15 hf
    · refine s_iconst C dX11_isDay_11 (v := (1 : Int32)) (by decide) ?_
      refine s_goto (tgt := 16) C dX11_isDay_12 (by decide) ?_
      refine s_weak (lv' := [none]) trivial ?_
      exact k16 _ hf
/-- HillBoxes.isUse(I)Z -/
noncomputable def f_X11_isUse (a0 : Int32) (h : AH) : Option (Int32 × AH) :=
  jn (fun (x1 : Int32) =>
    rz x1 h) fun j26 =>
  jn (
    j26 (1 : Int32)) fun j21 =>
  jn (
    jn (
      j26 (0 : Int32)) fun j25 =>
    if a0 < (10 : Int32) then
      j25
    else
      if (20 : Int32) ≤ a0 then
        j25
      else
        j21) fun j9 =>
  if a0 < 0 then
    j9
  else
    if a0 ≤ (4 : Int32) then
      j21
    else
      j9
set_option maxRecDepth 100000 in
set_option maxHeartbeats 4000000 in
theorem c_X11_isUse (l : Launch) (D : DT) (a0 : Int32) (h : AH) (r : Int32 × AH) (hf : f_X11_isUse a0 h = some r) : CM l D yX11_isUse cX11_isUse 1 (some .boolean) 0 0 0 0 [.inl a0] h (some (.int r.1)) r.2 := by
  refine CM.of (by decide) (Nat.le_of_ble_eq_true rfl) (fun X hl C hD hX hnm E => ?_)
  subst hl
  subst hD
  have C : CX X RX11 cX11_isUse 1 := C
  show WW X h 0 0 0 [some (.int a0)] []
  unfold f_X11_isUse at hf
  refine s_iload_n C dX11_isUse_0 rfl ?_
  refine s_jn hf (fun j26 e26 hf => ?_)
  have k26 : ∀ (x1 : Int32), j26 x1 = some r → WW X h 0 0 26 [none] [.int x1] := by
    intro x1 hf
    rw [e26] at hf
    exact s_zreturn C E dX11_isUse_26 hf (Nat.le_of_ble_eq_true rfl) (Nat.le_of_ble_eq_true rfl)
  refine s_jn hf (fun j21 e21 hf => ?_)
  have k21 : j21  = some r → WW X h 0 0 21 [none] [] := by
    intro  hf
    rw [e21] at hf
    refine s_iconst C dX11_isUse_21 (v := (1 : Int32)) (by decide) ?_
    refine s_goto (tgt := 26) C dX11_isUse_22 (by decide) ?_
    exact k26 _ hf
  refine s_jn hf (fun j9 e9 hf => ?_)
  have k9 : j9  = some r → WW X h 0 0 9 [some (.int a0)] [] := by
    intro  hf
    rw [e9] at hf
    refine s_iload_n C dX11_isUse_9 rfl ?_
    refine s_bipush C dX11_isUse_10 (v := (10 : Int32)) (by decide) ?_
    refine s_jn hf (fun j25 e25 hf => ?_)
    have k25 : j25  = some r → WW X h 0 0 25 [none] [] := by
      intro  hf
      rw [e25] at hf
      refine s_iconst C dX11_isUse_25 (v := (0 : Int32)) (by decide) ?_
      exact k26 _ hf
    refine s_icmp_lt (tgt := 25) C dX11_isUse_12 (by decide) hf (fun hf => ?_) (fun hf => ?_)
    · refine s_weak (lv' := [none]) trivial ?_
      exact k25 hf
    · refine s_iload_n C dX11_isUse_15 rfl ?_
      refine s_bipush C dX11_isUse_16 (v := (20 : Int32)) (by decide) ?_
      refine s_icmp_ge (tgt := 25) C dX11_isUse_18 (by decide) hf (fun hf => ?_) (fun hf => ?_)
      · refine s_weak (lv' := [none]) trivial ?_
        exact k25 hf
      · refine s_weak (lv' := [none]) trivial ?_
        exact k21 hf
  refine s_if_lt (tgt := 9) C dX11_isUse_1 (by decide) hf (fun hf => ?_) (fun hf => ?_)
  · exact k9 hf
  · refine s_iload_n C dX11_isUse_4 rfl ?_
    refine s_iconst C dX11_isUse_5 (v := (4 : Int32)) (by decide) ?_
    refine s_icmp_le (tgt := 21) C dX11_isUse_6 (by decide) hf (fun hf => ?_) (fun hf => ?_)
    · refine s_weak (lv' := [none]) trivial ?_
      exact k21 hf
    · exact k9 hf
/-- HillBoxes.inForce(III)I -/
noncomputable def f_X11_inForce (o : Option Nat) (a1 : Int32) (a2 : Int32) (a3 : Int32) (h : AH) : Option (Int32 × AH) :=
  cl (f_X11_isUse a1 h) fun v2 h1 =>
  jn (fun (h3 : AH) =>
    some ((-1 : Int32), h3)) fun j21 =>
  if v2 = 0 then
    j21 h1
  else
    cl (f_X11_isDay a2 h1) fun v5 h4 =>
    if v5 = 0 then
      j21 h4
    else
      cl (f_X11_isDay a3 h4) fun v7 h6 =>
      if v7 = 0 then
        j21 h6
      else
        fR h6 [11] o 1 fun v8 =>
        rO h6 [6] v8 <| cl (f_X6_ruleFor v8 a1 a2 a3 h6) fun v10 h9 =>
        jn (fun (x11 : Int32) =>
          some (x11, h9)) fun j47 =>
        if 0 ≤ v10 then
          j47 v10
        else
          j47 (-2 : Int32)
set_option maxRecDepth 100000 in
set_option maxHeartbeats 4000000 in
theorem c_X11_inForce (l : Launch) (D : DT) (o : Option Nat) (a1 : Int32) (a2 : Int32) (a3 : Int32) (h : AH) (r : Int32 × AH) (hf : f_X11_inForce o a1 a2 a3 h = some r) : CM l D yX11_inForce cX11_inForce 5 (some .int) 1 24 0 0 [.inr (.inr o), .inl a1, .inl a2, .inl a3] h (some (.int r.1)) r.2 := by
  refine CM.of (by decide) (Nat.le_of_ble_eq_true rfl) (fun X hl C hD hX hnm E => ?_)
  subst hl
  subst hD
  have C : CX X RX11 cX11_inForce 5 := C
  show WW X h 0 0 0 [some (rB (xD X).1 o), some (.int a1), some (.int a2), some (.int a3), none] []
  unfold f_X11_inForce at hf
  refine s_iload_n C dX11_inForce_0 rfl ?_
  refine s_callS (rvf := fun x => some (.int x)) (st := []) (fr := 0) (lo := 0) (mc := 0) (ms := 0) C wc_X11_isUse wml_X11_194 wst_X11_isUse dX11_inForce_1 (As := [.inl a1]) rfl hf (fun x h' hF => c_X11_isUse _ _ _ _ (x, h') hF) rfl (Nat.le_of_ble_eq_true rfl) (room_ok hX (Nat.le_of_ble_eq_true rfl) (Nat.le_of_ble_eq_true rfl)) (cell_ok hX (Nat.le_of_ble_eq_true rfl) (Nat.le_of_ble_eq_true rfl)) (fun v2 h1 hf => ?_)
  refine s_jn hf (fun j21 e21 hf => ?_)
  have k21 : ∀ (h3 : AH), j21 h3 = some r → WW X h3 0 0 21 [none, none, none, none, none] [] := by
    intro h3 hf
    rw [e21] at hf
    refine s_iconst C dX11_inForce_21 (v := (-1 : Int32)) (by decide) ?_
    exact s_ireturn C E dX11_inForce_22 hf (Nat.le_of_ble_eq_true rfl) (Nat.le_of_ble_eq_true rfl)
  refine s_if_eq (tgt := 21) C dX11_inForce_4 (by decide) hf (fun hf => ?_) (fun hf => ?_)
  · refine s_weak (lv' := [none, none, none, none, none]) trivial ?_
    exact k21 _ hf
  · refine s_iload_n C dX11_inForce_7 rfl ?_
    refine s_callS (rvf := fun x => some (.int x)) (st := []) (fr := 0) (lo := 0) (mc := 0) (ms := 0) C wc_X11_isDay wml_X11_173 wst_X11_isDay dX11_inForce_8 (As := [.inl a2]) rfl hf (fun x h' hF => c_X11_isDay _ _ _ _ (x, h') hF) rfl (Nat.le_of_ble_eq_true rfl) (room_ok hX (Nat.le_of_ble_eq_true rfl) (Nat.le_of_ble_eq_true rfl)) (cell_ok hX (Nat.le_of_ble_eq_true rfl) (Nat.le_of_ble_eq_true rfl)) (fun v5 h4 hf => ?_)
    refine s_if_eq (tgt := 21) C dX11_inForce_11 (by decide) hf (fun hf => ?_) (fun hf => ?_)
    · refine s_weak (lv' := [none, none, none, none, none]) trivial ?_
      exact k21 _ hf
    · refine s_iload_n C dX11_inForce_14 rfl ?_
      refine s_callS (rvf := fun x => some (.int x)) (st := []) (fr := 0) (lo := 0) (mc := 0) (ms := 0) C wc_X11_isDay wml_X11_173 wst_X11_isDay dX11_inForce_15 (As := [.inl a3]) rfl hf (fun x h' hF => c_X11_isDay _ _ _ _ (x, h') hF) rfl (Nat.le_of_ble_eq_true rfl) (room_ok hX (Nat.le_of_ble_eq_true rfl) (Nat.le_of_ble_eq_true rfl)) (cell_ok hX (Nat.le_of_ble_eq_true rfl) (Nat.le_of_ble_eq_true rfl)) (fun v7 h6 hf => ?_)
      refine s_if_ne (tgt := 23) C dX11_inForce_18 (by decide) hf (fun hf => ?_) (fun hf => ?_)
      · refine s_aload_n C dX11_inForce_23 rfl ?_
        refine s_getR C fl_X11_21 dX11_inForce_24 hf (fun v8 hf => ?_)
        refine s_iload_n C dX11_inForce_27 rfl ?_
        refine s_iload_n C dX11_inForce_28 rfl ?_
        refine s_iload_n C dX11_inForce_29 rfl ?_
        refine s_callV (rvf := fun x => some (.int x)) (st := []) (fr := 0) (lo := 0) (mc := 0) (ms := 0) C [6] wc_X6_ruleFor wml_X11_202 wim_X6_ruleFor wsl_6_X6_ruleFor dX11_inForce_30 (As := [.inl a1, .inl a2, .inl a3]) rfl hf (fun x h' hF => c_X6_ruleFor _ _ _ _ _ _ _ (x, h') hF) rfl (Nat.le_of_ble_eq_true rfl) (room_ok hX (Nat.le_of_ble_eq_true rfl) (Nat.le_of_ble_eq_true rfl)) (cell_ok hX (Nat.le_of_ble_eq_true rfl) (Nat.le_of_ble_eq_true rfl)) (fun v10 h9 hf => ?_)
        refine s_istore C dX11_inForce_33 (by decide) (nc_i rfl) (lv' := [some (rB (xD X).1 o), some (.int a1), some (.int a2), some (.int a3), some (.int v10)]) rfl ?_
        refine s_iload C dX11_inForce_35 rfl ?_
        refine s_jn hf (fun j47 e47 hf => ?_)
        have k47 : ∀ (x11 : Int32), j47 x11 = some r → WW X h9 0 0 47 [none, none, none, none, none] [.int x11] := by
          intro x11 hf
          rw [e47] at hf
          exact s_ireturn C E dX11_inForce_47 hf (Nat.le_of_ble_eq_true rfl) (Nat.le_of_ble_eq_true rfl)
        refine s_if_ge (tgt := 45) C dX11_inForce_37 (by decide) hf (fun hf => ?_) (fun hf => ?_)
        · refine s_iload C dX11_inForce_45 rfl ?_
          refine s_weak (lv' := [none, none, none, none, none]) trivial ?_
          exact k47 _ hf
        · refine s_bipush C dX11_inForce_40 (v := (-2 : Int32)) (by decide) ?_
          refine s_goto (tgt := 47) C dX11_inForce_42 (by decide) ?_
          refine s_weak (lv' := [none, none, none, none, none]) trivial ?_
          exact k47 _ hf
      · refine s_weak (lv' := [none, none, none, none, none]) trivial ?_
        exact k21 _ hf
/-- HillBoxes.isFalse(II)I -/
noncomputable def f_X11_isFalse (o : Option Nat) (a1 : Int32) (a2 : Int32) (h : AH) : Option (Int32 × AH) :=
  fR h [11] o 2 fun v1 =>
  rO h [4] v1 <| cl (f_X4_has v1 a1 h) fun v3 h2 =>
  jn (
    some ((-1 : Int32), h2)) fun j20 =>
  if v3 = 0 then
    j20
  else
    if a2 < 0 then
      j20
    else
      if a2 ≤ (1 : Int32) then
        fR h2 [11] o 2 fun v4 =>
        rO h2 [4] v4 <| cl (f_X4_whyFalse v4 a1 h2) fun v6 h5 =>
        if a2 = 0 then
          some (v6, h5)
        else
          jn (fun (x7 : Int32) (h8 : AH) =>
            some (x7, h8)) fun j54 =>
          if v6 = (2 : Int32) then
            fR h5 [11] o 2 fun v9 =>
            rO h5 [4] v9 <| cl (f_X4_tooSoonBy v9 a1 h5) fun v11 h10 =>
            j54 v11 h10
          else
            j54 (-1 : Int32) h5
      else
        j20
set_option maxRecDepth 100000 in
set_option maxHeartbeats 4000000 in
theorem c_X11_isFalse (l : Launch) (D : DT) (o : Option Nat) (a1 : Int32) (a2 : Int32) (h : AH) (r : Int32 × AH) (hf : f_X11_isFalse o a1 a2 h = some r) : CM l D yX11_isFalse cX11_isFalse 4 (some .int) 5 111 0 0 [.inr (.inr o), .inl a1, .inl a2] h (some (.int r.1)) r.2 := by
  refine CM.of (by decide) (Nat.le_of_ble_eq_true rfl) (fun X hl C hD hX hnm E => ?_)
  subst hl
  subst hD
  have C : CX X RX11 cX11_isFalse 4 := C
  show WW X h 0 0 0 [some (rB (xD X).1 o), some (.int a1), some (.int a2), none] []
  unfold f_X11_isFalse at hf
  refine s_aload_n C dX11_isFalse_0 rfl ?_
  refine s_getR C fl_X11_30 dX11_isFalse_1 hf (fun v1 hf => ?_)
  refine s_iload_n C dX11_isFalse_4 rfl ?_
  refine s_callV (rvf := fun x => some (.int x)) (st := []) (fr := 0) (lo := 0) (mc := 0) (ms := 0) C [4] wc_X4_has wml_X11_313 wim_X4_has wsl_4_X4_has dX11_isFalse_5 (As := [.inl a1]) rfl hf (fun x h' hF => c_X4_has _ _ _ _ _ (x, h') hF) rfl (Nat.le_of_ble_eq_true rfl) (room_ok hX (Nat.le_of_ble_eq_true rfl) (Nat.le_of_ble_eq_true rfl)) (cell_ok hX (Nat.le_of_ble_eq_true rfl) (Nat.le_of_ble_eq_true rfl)) (fun v3 h2 hf => ?_)
  refine s_jn hf (fun j20 e20 hf => ?_)
  have k20 : j20  = some r → WW X h2 0 0 20 [none, none, none, none] [] := by
    intro  hf
    rw [e20] at hf
    refine s_iconst C dX11_isFalse_20 (v := (-1 : Int32)) (by decide) ?_
    exact s_ireturn C E dX11_isFalse_21 hf (Nat.le_of_ble_eq_true rfl) (Nat.le_of_ble_eq_true rfl)
  refine s_if_eq (tgt := 20) C dX11_isFalse_8 (by decide) hf (fun hf => ?_) (fun hf => ?_)
  · refine s_weak (lv' := [none, none, none, none]) trivial ?_
    exact k20 hf
  · refine s_iload_n C dX11_isFalse_11 rfl ?_
    refine s_if_lt (tgt := 20) C dX11_isFalse_12 (by decide) hf (fun hf => ?_) (fun hf => ?_)
    · refine s_weak (lv' := [none, none, none, none]) trivial ?_
      exact k20 hf
    · refine s_iload_n C dX11_isFalse_15 rfl ?_
      refine s_iconst C dX11_isFalse_16 (v := (1 : Int32)) (by decide) ?_
      refine s_icmp_le (tgt := 22) C dX11_isFalse_17 (by decide) hf (fun hf => ?_) (fun hf => ?_)
      · refine s_aload_n C dX11_isFalse_22 rfl ?_
        refine s_getR C fl_X11_30 dX11_isFalse_23 hf (fun v4 hf => ?_)
        refine s_iload_n C dX11_isFalse_26 rfl ?_
        refine s_callV (rvf := fun x => some (.int x)) (st := []) (fr := 4) (lo := 88) (mc := 0) (ms := 0) C [4] wc_X4_whyFalse wml_X11_316 wim_X4_whyFalse wsl_4_X4_whyFalse dX11_isFalse_27 (As := [.inl a1]) rfl hf (fun x h' hF => c_X4_whyFalse _ _ _ _ _ (x, h') hF) rfl (Nat.le_of_ble_eq_true rfl) (room_ok hX (Nat.le_of_ble_eq_true rfl) (Nat.le_of_ble_eq_true rfl)) (cell_ok hX (Nat.le_of_ble_eq_true rfl) (Nat.le_of_ble_eq_true rfl)) (fun v6 h5 hf => ?_)
        refine s_istore_n C dX11_isFalse_30 (by decide) (nc_i rfl) (lv' := [some (rB (xD X).1 o), some (.int a1), some (.int a2), some (.int v6)]) rfl ?_
        refine s_iload_n C dX11_isFalse_31 rfl ?_
        refine s_if_ne (tgt := 37) C dX11_isFalse_32 (by decide) hf (fun hf => ?_) (fun hf => ?_)
        · refine s_iload_n C dX11_isFalse_37 rfl ?_
          refine s_iconst C dX11_isFalse_38 (v := (2 : Int32)) (by decide) ?_
          refine s_jn hf (fun j54 e54 hf => ?_)
          have k54 : ∀ (x7 : Int32) (h8 : AH), j54 x7 h8 = some r → WW X h8 0 0 54 [none, none, none, none] [.int x7] := by
            intro x7 h8 hf
            rw [e54] at hf
            exact s_ireturn C E dX11_isFalse_54 hf (Nat.le_of_ble_eq_true rfl) (Nat.le_of_ble_eq_true rfl)
          refine s_icmp_ne (tgt := 53) C dX11_isFalse_39 (by decide) hf (fun hf => ?_) (fun hf => ?_)
          · refine s_iconst C dX11_isFalse_53 (v := (-1 : Int32)) (by decide) ?_
            refine s_weak (lv' := [none, none, none, none]) trivial ?_
            exact k54 _ _ hf
          · refine s_aload_n C dX11_isFalse_42 rfl ?_
            refine s_getR C fl_X11_30 dX11_isFalse_43 hf (fun v9 hf => ?_)
            refine s_iload_n C dX11_isFalse_46 rfl ?_
            refine s_callV (rvf := fun x => some (.int x)) (st := []) (fr := 3) (lo := 64) (mc := 0) (ms := 0) C [4] wc_X4_tooSoonBy wml_X11_319 wim_X4_tooSoonBy wsl_4_X4_tooSoonBy dX11_isFalse_47 (As := [.inl a1]) rfl hf (fun x h' hF => c_X4_tooSoonBy _ _ _ _ _ (x, h') hF) rfl (Nat.le_of_ble_eq_true rfl) (room_ok hX (Nat.le_of_ble_eq_true rfl) (Nat.le_of_ble_eq_true rfl)) (cell_ok hX (Nat.le_of_ble_eq_true rfl) (Nat.le_of_ble_eq_true rfl)) (fun v11 h10 hf => ?_)
            refine s_goto (tgt := 54) C dX11_isFalse_50 (by decide) ?_
            refine s_weak (lv' := [none, none, none, none]) trivial ?_
            exact k54 _ _ hf
        · refine s_iload_n C dX11_isFalse_35 rfl ?_
          exact s_ireturn C E dX11_isFalse_36 hf (Nat.le_of_ble_eq_true rfl) (Nat.le_of_ble_eq_true rfl)
      · refine s_weak (lv' := [none, none, none, none]) trivial ?_
        exact k20 hf
/-- HillBoxes$Logs.joinOf(ILHillBoxes$Box;)I -/
noncomputable def f_X4_joinOf (o : Option Nat) (a1 : Int32) (a2 : Option Nat) (h : AH) : Option (Int32 × AH) :=
  rO h [1] a2 <| cl (f_X1_isOnPaper a2 a1 h) fun v2 h1 =>
  lp (fun _ => none) (fun (L9 : Int32 → Option (Int32 × AH)) (x3 : Int32) =>
    fI h1 [4] o 2 fun v4 =>
    if v4 ≤ x3 then
      jn (fun (x5 : Int32) =>
        some (x5, h1)) fun j78 =>
      if v2 = 0 then
        j78 (-1 : Int32)
      else
        j78 (2 : Int32)
    else
      fR h1 [4] o 1 fun v6 =>
      aI h1 23 v6 x3 fun v7 =>
      jn (
        L9 (x3 + 1)) fun j63 =>
      if v7 = 0 then
        j63
      else
        fR h1 [4] o 0 fun v8 =>
        aI h1 20 v8 x3 fun v9 =>
        if v9 = a1 then
          fR h1 [4] o 4 fun v10 =>
          aI h1 20 v10 x3 fun v11 =>
          fI h1 [1] a2 0 fun v12 =>
          if v11 = v12 then
            jn (fun (x13 : Int32) =>
              some (x13, h1)) fun j62 =>
            if v2 = 0 then
              j62 (1 : Int32)
            else
              j62 (0 : Int32)
          else
            j63
        else
          j63) lpN (0 : Int32)
set_option maxRecDepth 100000 in
set_option maxHeartbeats 4000000 in
theorem c_X4_joinOf (l : Launch) (D : DT) (o : Option Nat) (a1 : Int32) (a2 : Option Nat) (h : AH) (r : Int32 × AH) (hf : f_X4_joinOf o a1 a2 h = some r) : CM l D yX4_joinOf cX4_joinOf 5 (some .int) 1 22 0 0 [.inr (.inr o), .inl a1, .inr (.inr a2)] h (some (.int r.1)) r.2 := by
  refine CM.of (by decide) (Nat.le_of_ble_eq_true rfl) (fun X hl C hD hX hnm E => ?_)
  subst hl
  subst hD
  have C : CX X RX4 cX4_joinOf 5 := C
  show WW X h 0 0 0 [some (rB (xD X).1 o), some (.int a1), some (rB (xD X).1 a2), none, none] []
  unfold f_X4_joinOf at hf
  refine s_aload_n C dX4_joinOf_0 rfl ?_
  refine s_iload_n C dX4_joinOf_1 rfl ?_
  refine s_callV (rvf := fun x => some (.int x)) (st := []) (fr := 0) (lo := 0) (mc := 0) (ms := 0) C [1] wc_X1_isOnPaper wml_X4_75 wim_X1_isOnPaper wsl_1_X1_isOnPaper dX4_joinOf_2 (As := [.inl a1]) rfl hf (fun x h' hF => c_X1_isOnPaper _ _ _ _ _ (x, h') hF) rfl (Nat.le_of_ble_eq_true rfl) (room_ok hX (Nat.le_of_ble_eq_true rfl) (Nat.le_of_ble_eq_true rfl)) (cell_ok hX (Nat.le_of_ble_eq_true rfl) (Nat.le_of_ble_eq_true rfl)) (fun v2 h1 hf => ?_)
  refine s_istore_n C dX4_joinOf_5 (by decide) (nc_r rfl) (lv' := [some (rB (xD X).1 o), some (.int a1), some (rB (xD X).1 a2), some (.int v2), none]) rfl ?_
  refine s_iconst C dX4_joinOf_6 (v := (0 : Int32)) (by decide) ?_
  refine s_istore C dX4_joinOf_7 (by decide) (nc_i rfl) (lv' := [some (rB (xD X).1 o), some (.int a1), some (rB (xD X).1 a2), some (.int v2), some (.int (0 : Int32))]) rfl ?_
  refine s_lp1 hf (fun G9 z9 q9 hf => ?_)
  have k9 : ∀ (n : Nat) (x3 : Int32), G9 n x3 = some r → WW X h1 0 0 9 [some (rB (xD X).1 o), some (.int a1), some (rB (xD X).1 a2), some (.int v2), some (.int x3)] [] := by
    intro n
    induction n with
    | zero =>
      intro x3 hf
      rw [z9] at hf
      cases hf
    | succ n ih9 =>
      intro x3 hf
      have hf := (q9 n x3).symm.trans hf
      refine s_iload C dX4_joinOf_9 rfl ?_
      refine s_aload_n C dX4_joinOf_11 rfl ?_
      refine s_getI C fl_X4_39 dX4_joinOf_12 hf (fun v4 hf => ?_)
      refine s_icmp_ge (tgt := 69) C dX4_joinOf_15 (by decide) hf (fun hf => ?_) (fun hf => ?_)
      · refine s_iload_n C dX4_joinOf_69 rfl ?_
        refine s_jn hf (fun j78 e78 hf => ?_)
        have k78 : ∀ (x5 : Int32), j78 x5 = some r → WW X h1 0 0 78 [none, none, none, none, none] [.int x5] := by
          intro x5 hf
          rw [e78] at hf
          exact s_ireturn C E dX4_joinOf_78 hf (Nat.le_of_ble_eq_true rfl) (Nat.le_of_ble_eq_true rfl)
        refine s_if_eq (tgt := 77) C dX4_joinOf_70 (by decide) hf (fun hf => ?_) (fun hf => ?_)
        · refine s_iconst C dX4_joinOf_77 (v := (-1 : Int32)) (by decide) ?_
          refine s_weak (lv' := [none, none, none, none, none]) trivial ?_
          exact k78 _ hf
        · refine s_iconst C dX4_joinOf_73 (v := (2 : Int32)) (by decide) ?_
          refine s_goto (tgt := 78) C dX4_joinOf_74 (by decide) ?_
          refine s_weak (lv' := [none, none, none, none, none]) trivial ?_
          exact k78 _ hf
      · refine s_aload_n C dX4_joinOf_18 rfl ?_
        refine s_getR C fl_X4_15 dX4_joinOf_19 hf (fun v6 hf => ?_)
        refine s_iload C dX4_joinOf_22 rfl ?_
        refine s_zaload C dX4_joinOf_24 hf (fun v7 hf => ?_)
        refine s_jn hf (fun j63 e63 hf => ?_)
        have k63 : j63  = some r → WW X h1 0 0 63 [some (rB (xD X).1 o), some (.int a1), some (rB (xD X).1 a2), some (.int v2), some (.int x3)] [] := by
          intro  hf
          rw [e63] at hf
          refine s_iinc C dX4_joinOf_63 (v := (x3 + 1)) rfl rfl (by decide) (nc_i rfl) (lv' := [some (rB (xD X).1 o), some (.int a1), some (rB (xD X).1 a2), some (.int v2), some (.int (x3 + 1))]) rfl ?_
          refine s_goto (tgt := 9) C dX4_joinOf_66 (by decide) ?_
          exact ih9 _ hf
        refine s_if_eq (tgt := 63) C dX4_joinOf_25 (by decide) hf (fun hf => ?_) (fun hf => ?_)
        · exact k63 hf
        · refine s_aload_n C dX4_joinOf_28 rfl ?_
          refine s_getR C fl_X4_9 dX4_joinOf_29 hf (fun v8 hf => ?_)
          refine s_iload C dX4_joinOf_32 rfl ?_
          refine s_iaload C dX4_joinOf_34 hf (fun v9 hf => ?_)
          refine s_iload_n C dX4_joinOf_35 rfl ?_
          refine s_icmp_ne (tgt := 63) C dX4_joinOf_36 (by decide) hf (fun hf => ?_) (fun hf => ?_)
          · exact k63 hf
          · refine s_aload_n C dX4_joinOf_39 rfl ?_
            refine s_getR C fl_X4_22 dX4_joinOf_40 hf (fun v10 hf => ?_)
            refine s_iload C dX4_joinOf_43 rfl ?_
            refine s_iaload C dX4_joinOf_45 hf (fun v11 hf => ?_)
            refine s_aload_n C dX4_joinOf_46 rfl ?_
            refine s_getI C fl_X4_64 dX4_joinOf_47 hf (fun v12 hf => ?_)
            refine s_icmp_ne (tgt := 63) C dX4_joinOf_50 (by decide) hf (fun hf => ?_) (fun hf => ?_)
            · exact k63 hf
            · refine s_iload_n C dX4_joinOf_53 rfl ?_
              refine s_jn hf (fun j62 e62 hf => ?_)
              have k62 : ∀ (x13 : Int32), j62 x13 = some r → WW X h1 0 0 62 [none, none, none, none, none] [.int x13] := by
                intro x13 hf
                rw [e62] at hf
                exact s_ireturn C E dX4_joinOf_62 hf (Nat.le_of_ble_eq_true rfl) (Nat.le_of_ble_eq_true rfl)
              refine s_if_eq (tgt := 61) C dX4_joinOf_54 (by decide) hf (fun hf => ?_) (fun hf => ?_)
              · refine s_iconst C dX4_joinOf_61 (v := (1 : Int32)) (by decide) ?_
                refine s_weak (lv' := [none, none, none, none, none]) trivial ?_
                exact k62 _ hf
              · refine s_iconst C dX4_joinOf_57 (v := (0 : Int32)) (by decide) ?_
                refine s_goto (tgt := 62) C dX4_joinOf_58 (by decide) ?_
                refine s_weak (lv' := [none, none, none, none, none]) trivial ?_
                exact k62 _ hf
  exact k9 lpN _ hf
/-- HillBoxes.join(III)I -/
noncomputable def f_X11_join (o : Option Nat) (a1 : Int32) (a2 : Int32) (a3 : Int32) (h : AH) : Option (Int32 × AH) :=
  fR h [11] o 0 fun v1 =>
  rO h [3] v1 <| cl (f_X3_boxAt v1 a1 h) fun v3 h2 =>
  jn (
    some ((-1 : Int32), h2)) fun j24 =>
  if v3 = none then
    j24
  else
    if a2 < 0 then
      j24
    else
      if a2 ≤ (2 : Int32) then
        lp (fun _ _ _ => none) (fun (L32 : Int32 → Int32 → AH → Option (Int32 × AH)) (x4 : Int32) (x5 : Int32) (h6 : AH) =>
          fR h6 [11] o 0 fun v7 =>
          fI h6 [3] v7 3 fun v8 =>
          if v8 ≤ x5 then
            jn (fun (x9 : Int32) =>
              some (x9, h6)) fun j100 =>
            if a3 = (-1 : Int32) then
              j100 x4
            else
              j100 (-1 : Int32)
          else
            fR h6 [11] o 0 fun v10 =>
            rO h6 [3] v10 <| cl (f_X3_finderAt v10 x5 h6) fun v12 h11 =>
            jn (fun (x13 : Int32) (h14 : AH) =>
              L32 x13 (x5 + 1) h14) fun j83 =>
            if v12 = none then
              j83 x4 h11
            else
              fR h11 [11] o 2 fun v15 =>
              rO h11 [4] v15 <| cl (f_X4_joinOf v15 x5 v3 h11) fun v17 h16 =>
              if v17 = a2 then
                if x4 = a3 then
                  some (x5, h16)
                else
                  j83 (x4 + 1) h16
              else
                j83 x4 h16) lpN (0 : Int32) (0 : Int32) h2
      else
        j24
set_option maxRecDepth 100000 in
set_option maxHeartbeats 4000000 in
theorem c_X11_join (l : Launch) (D : DT) (o : Option Nat) (a1 : Int32) (a2 : Int32) (a3 : Int32) (h : AH) (r : Int32 × AH) (hf : f_X11_join o a1 a2 a3 h = some r) : CM l D yX11_join cX11_join 7 (some .int) 2 46 0 0 [.inr (.inr o), .inl a1, .inl a2, .inl a3] h (some (.int r.1)) r.2 := by
  refine CM.of (by decide) (Nat.le_of_ble_eq_true rfl) (fun X hl C hD hX hnm E => ?_)
  subst hl
  subst hD
  have C : CX X RX11 cX11_join 7 := C
  show WW X h 0 0 0 [some (rB (xD X).1 o), some (.int a1), some (.int a2), some (.int a3), none, none, none] []
  unfold f_X11_join at hf
  refine s_aload_n C dX11_join_0 rfl ?_
  refine s_getR C fl_X11_10 dX11_join_1 hf (fun v1 hf => ?_)
  refine s_iload_n C dX11_join_4 rfl ?_
  refine s_callV (rvf := fun x => some (rB (xD X).1 x)) (st := []) (fr := 0) (lo := 0) (mc := 0) (ms := 0) C [3] wc_X3_boxAt wml_X11_130 wim_X3_boxAt wsl_3_X3_boxAt dX11_join_5 (As := [.inl a1]) rfl hf (fun x h' hF => c_X3_boxAt _ _ _ _ _ (x, h') hF) rfl (Nat.le_of_ble_eq_true rfl) (room_ok hX (Nat.le_of_ble_eq_true rfl) (Nat.le_of_ble_eq_true rfl)) (cell_ok hX (Nat.le_of_ble_eq_true rfl) (Nat.le_of_ble_eq_true rfl)) (fun v3 h2 hf => ?_)
  refine s_astore C dX11_join_8 (by decide) (nc_i rfl) (lv' := [some (rB (xD X).1 o), some (.int a1), some (.int a2), some (.int a3), some (rB (xD X).1 v3), none, none]) rfl ?_
  refine s_aload C dX11_join_10 rfl ?_
  refine s_jn hf (fun j24 e24 hf => ?_)
  have k24 : j24  = some r → WW X h2 0 0 24 [none, none, none, none, none, none, none] [] := by
    intro  hf
    rw [e24] at hf
    refine s_iconst C dX11_join_24 (v := (-1 : Int32)) (by decide) ?_
    exact s_ireturn C E dX11_join_25 hf (Nat.le_of_ble_eq_true rfl) (Nat.le_of_ble_eq_true rfl)
  refine s_ifnull (tgt := 24) C dX11_join_12 (by decide) hf (fun hf => ?_) (fun hf => ?_)
  · refine s_weak (lv' := [none, none, none, none, none, none, none]) trivial ?_
    exact k24 hf
  · refine s_iload_n C dX11_join_15 rfl ?_
    refine s_if_lt (tgt := 24) C dX11_join_16 (by decide) hf (fun hf => ?_) (fun hf => ?_)
    · refine s_weak (lv' := [none, none, none, none, none, none, none]) trivial ?_
      exact k24 hf
    · refine s_iload_n C dX11_join_19 rfl ?_
      refine s_iconst C dX11_join_20 (v := (2 : Int32)) (by decide) ?_
      refine s_icmp_le (tgt := 26) C dX11_join_21 (by decide) hf (fun hf => ?_) (fun hf => ?_)
      · refine s_iconst C dX11_join_26 (v := (0 : Int32)) (by decide) ?_
        refine s_istore C dX11_join_27 (by decide) (nc_r rfl) (lv' := [some (rB (xD X).1 o), some (.int a1), some (.int a2), some (.int a3), some (rB (xD X).1 v3), some (.int (0 : Int32)), none]) rfl ?_
        refine s_iconst C dX11_join_29 (v := (0 : Int32)) (by decide) ?_
        refine s_istore C dX11_join_30 (by decide) (nc_i rfl) (lv' := [some (rB (xD X).1 o), some (.int a1), some (.int a2), some (.int a3), some (rB (xD X).1 v3), some (.int (0 : Int32)), some (.int (0 : Int32))]) rfl ?_
        refine s_lp3 hf (fun G32 z32 q32 hf => ?_)
        have k32 : ∀ (n : Nat) (x4 : Int32) (x5 : Int32) (h6 : AH), G32 n x4 x5 h6 = some r → WW X h6 0 0 32 [some (rB (xD X).1 o), none, some (.int a2), some (.int a3), some (rB (xD X).1 v3), some (.int x4), some (.int x5)] [] := by
          intro n
          induction n with
          | zero =>
            intro x4 x5 h6 hf
            rw [z32] at hf
            cases hf
          | succ n ih32 =>
            intro x4 x5 h6 hf
            have hf := (q32 n x4 x5 h6).symm.trans hf
            refine s_iload C dX11_join_32 rfl ?_
            refine s_aload_n C dX11_join_34 rfl ?_
            refine s_getR C fl_X11_10 dX11_join_35 hf (fun v7 hf => ?_)
            refine s_getI C fl_X11_70 dX11_join_38 hf (fun v8 hf => ?_)
            refine s_icmp_ge (tgt := 89) C dX11_join_41 (by decide) hf (fun hf => ?_) (fun hf => ?_)
            · refine s_iload_n C dX11_join_89 rfl ?_
              refine s_iconst C dX11_join_90 (v := (-1 : Int32)) (by decide) ?_
              refine s_jn hf (fun j100 e100 hf => ?_)
              have k100 : ∀ (x9 : Int32), j100 x9 = some r → WW X h6 0 0 100 [none, none, none, none, none, none, none] [.int x9] := by
                intro x9 hf
                rw [e100] at hf
                exact s_ireturn C E dX11_join_100 hf (Nat.le_of_ble_eq_true rfl) (Nat.le_of_ble_eq_true rfl)
              refine s_icmp_ne (tgt := 99) C dX11_join_91 (by decide) hf (fun hf => ?_) (fun hf => ?_)
              · refine s_iconst C dX11_join_99 (v := (-1 : Int32)) (by decide) ?_
                refine s_weak (lv' := [none, none, none, none, none, none, none]) trivial ?_
                exact k100 _ hf
              · refine s_iload C dX11_join_94 rfl ?_
                refine s_goto (tgt := 100) C dX11_join_96 (by decide) ?_
                refine s_weak (lv' := [none, none, none, none, none, none, none]) trivial ?_
                exact k100 _ hf
            · refine s_aload_n C dX11_join_44 rfl ?_
              refine s_getR C fl_X11_10 dX11_join_45 hf (fun v10 hf => ?_)
              refine s_iload C dX11_join_48 rfl ?_
              refine s_callV (rvf := fun x => some (rB (xD X).1 x)) (st := []) (fr := 0) (lo := 0) (mc := 0) (ms := 0) C [3] wc_X3_finderAt wml_X11_90 wim_X3_finderAt wsl_3_X3_finderAt dX11_join_50 (As := [.inl x5]) rfl hf (fun x h' hF => c_X3_finderAt _ _ _ _ _ (x, h') hF) rfl (Nat.le_of_ble_eq_true rfl) (room_ok hX (Nat.le_of_ble_eq_true rfl) (Nat.le_of_ble_eq_true rfl)) (cell_ok hX (Nat.le_of_ble_eq_true rfl) (Nat.le_of_ble_eq_true rfl)) (fun v12 h11 hf => ?_)
              refine s_jn hf (fun j83 e83 hf => ?_)
              have k83 : ∀ (x13 : Int32) (h14 : AH), j83 x13 h14 = some r → WW X h14 0 0 83 [some (rB (xD X).1 o), none, some (.int a2), some (.int a3), some (rB (xD X).1 v3), some (.int x13), some (.int x5)] [] := by
                intro x13 h14 hf
                rw [e83] at hf
                refine s_iinc C dX11_join_83 (v := (x5 + 1)) rfl rfl (by decide) (nc_i rfl) (lv' := [some (rB (xD X).1 o), none, some (.int a2), some (.int a3), some (rB (xD X).1 v3), some (.int x13), some (.int (x5 + 1))]) rfl ?_
                refine s_goto (tgt := 32) C dX11_join_86 (by decide) ?_
                exact ih32 _ _ _ hf
              refine s_ifnull (tgt := 83) C dX11_join_53 (by decide) hf (fun hf => ?_) (fun hf => ?_)
              · exact k83 _ _ hf
              · refine s_aload_n C dX11_join_56 rfl ?_
                refine s_getR C fl_X11_30 dX11_join_57 hf (fun v15 hf => ?_)
                refine s_iload C dX11_join_60 rfl ?_
                refine s_aload C dX11_join_62 rfl ?_
                refine s_callV (rvf := fun x => some (.int x)) (st := []) (fr := 1) (lo := 22) (mc := 0) (ms := 0) C [4] wc_X4_joinOf wml_X11_303 wim_X4_joinOf wsl_4_X4_joinOf dX11_join_64 (As := [.inl x5, .inr (.inr v3)]) rfl hf (fun x h' hF => c_X4_joinOf _ _ _ _ _ _ (x, h') hF) rfl (Nat.le_of_ble_eq_true rfl) (room_ok hX (Nat.le_of_ble_eq_true rfl) (Nat.le_of_ble_eq_true rfl)) (cell_ok hX (Nat.le_of_ble_eq_true rfl) (Nat.le_of_ble_eq_true rfl)) (fun v17 h16 hf => ?_)
                refine s_iload_n C dX11_join_67 rfl ?_
                refine s_icmp_ne (tgt := 83) C dX11_join_68 (by decide) hf (fun hf => ?_) (fun hf => ?_)
                · exact k83 _ _ hf
                · refine s_iload C dX11_join_71 rfl ?_
                  refine s_iload_n C dX11_join_73 rfl ?_
                  refine s_icmp_ne (tgt := 80) C dX11_join_74 (by decide) hf (fun hf => ?_) (fun hf => ?_)
                  · refine s_iinc C dX11_join_80 (v := (x4 + 1)) rfl rfl (by decide) (nc_r rfl) (lv' := [some (rB (xD X).1 o), none, some (.int a2), some (.int a3), some (rB (xD X).1 v3), some (.int (x4 + 1)), some (.int x5)]) rfl ?_
                    exact k83 _ _ hf
                  · refine s_iload C dX11_join_77 rfl ?_
                    exact s_ireturn C E dX11_join_79 hf (Nat.le_of_ble_eq_true rfl) (Nat.le_of_ble_eq_true rfl)
        refine s_weak (lv' := [some (rB (xD X).1 o), none, some (.int a2), some (.int a3), some (rB (xD X).1 v3), some (.int (0 : Int32)), some (.int (0 : Int32))]) ⟨rfl, ⟨rfl, ⟨rfl, ⟨rfl, ⟨rfl, ⟨rfl, trivial⟩⟩⟩⟩⟩⟩ ?_
        exact k32 lpN _ _ _ hf
      · refine s_weak (lv' := [none, none, none, none, none, none, none]) trivial ?_
        exact k24 hf
/-- HillBoxes$Walks.cellOf(I)I -/
noncomputable def f_X10_cellOf (o : Option Nat) (a1 : Int32) (h : AH) : Option (Int32 × AH) :=
  jn (fun (x1 : Option Nat) =>
    jn (fun (x2 : Int32) (h3 : AH) =>
      some (x2, h3)) fun j38 =>
    if x1 = none then
      fI h [10] o 13 fun v6 =>
      j38 v6 h
    else
      rO h [1] x1 <| cl (f_X1_liesNow x1 h) fun v5 h4 =>
      j38 v5 h4) fun j22 =>
  jn (
    j22 none) fun j12 =>
  if a1 < 0 then
    j12
  else
    fI h [10] o 0 fun v7 =>
    if a1 < v7 then
      fR h [10] o 4 fun v8 =>
      aR h 26 v8 a1 fun v9 =>
      j22 v9
    else
      j12
set_option maxRecDepth 100000 in
set_option maxHeartbeats 4000000 in
theorem c_X10_cellOf (l : Launch) (D : DT) (o : Option Nat) (a1 : Int32) (h : AH) (r : Int32 × AH) (hf : f_X10_cellOf o a1 h = some r) : CM l D yX10_cellOf cX10_cellOf 3 (some .int) 1 20 0 0 [.inr (.inr o), .inl a1] h (some (.int r.1)) r.2 := by
  refine CM.of (by decide) (Nat.le_of_ble_eq_true rfl) (fun X hl C hD hX hnm E => ?_)
  subst hl
  subst hD
  have C : CX X RX10 cX10_cellOf 3 := C
  show WW X h 0 0 0 [some (rB (xD X).1 o), some (.int a1), none] []
  unfold f_X10_cellOf at hf
  refine s_iload_n C dX10_cellOf_0 rfl ?_
  refine s_jn hf (fun j22 e22 hf => ?_)
  have k22 : ∀ (x1 : Option Nat), j22 x1 = some r → WW X h 0 0 22 [some (rB (xD X).1 o), none, none] [rB (xD X).1 x1] := by
    intro x1 hf
    rw [e22] at hf
    refine s_astore_n C dX10_cellOf_22 (by decide) (nc_n rfl) (lv' := [some (rB (xD X).1 o), none, some (rB (xD X).1 x1)]) rfl ?_
    refine s_aload_n C dX10_cellOf_23 rfl ?_
    refine s_jn hf (fun j38 e38 hf => ?_)
    have k38 : ∀ (x2 : Int32) (h3 : AH), j38 x2 h3 = some r → WW X h3 0 0 38 [none, none, none] [.int x2] := by
      intro x2 h3 hf
      rw [e38] at hf
      exact s_ireturn C E dX10_cellOf_38 hf (Nat.le_of_ble_eq_true rfl) (Nat.le_of_ble_eq_true rfl)
    refine s_ifnonnull (tgt := 34) C dX10_cellOf_24 (by decide) hf (fun hf => ?_) (fun hf => ?_)
    · refine s_aload_n C dX10_cellOf_34 rfl ?_
      refine s_callV (rvf := fun x => some (.int x)) (st := []) (fr := 0) (lo := 0) (mc := 0) (ms := 0) C [1] wc_X1_liesNow wml_X10_83 wim_X1_liesNow wsl_1_X1_liesNow dX10_cellOf_35 (As := []) rfl hf (fun x h' hF => c_X1_liesNow _ _ _ _ (x, h') hF) rfl (Nat.le_of_ble_eq_true rfl) (room_ok hX (Nat.le_of_ble_eq_true rfl) (Nat.le_of_ble_eq_true rfl)) (cell_ok hX (Nat.le_of_ble_eq_true rfl) (Nat.le_of_ble_eq_true rfl)) (fun v5 h4 hf => ?_)
      refine s_weak (lv' := [none, none, none]) trivial ?_
      exact k38 _ _ hf
    · refine s_aload_n C dX10_cellOf_27 rfl ?_
      refine s_getI C fl_X10_53 dX10_cellOf_28 hf (fun v6 hf => ?_)
      refine s_goto (tgt := 38) C dX10_cellOf_31 (by decide) ?_
      refine s_weak (lv' := [none, none, none]) trivial ?_
      exact k38 _ _ hf
  refine s_jn hf (fun j12 e12 hf => ?_)
  have k12 : j12  = some r → WW X h 0 0 12 [some (rB (xD X).1 o), none, none] [] := by
    intro  hf
    rw [e12] at hf
    refine s_null C dX10_cellOf_12 ?_
    refine s_goto (tgt := 22) C dX10_cellOf_13 (by decide) ?_
    exact k22 _ hf
  refine s_if_lt (tgt := 12) C dX10_cellOf_1 (by decide) hf (fun hf => ?_) (fun hf => ?_)
  · refine s_weak (lv' := [some (rB (xD X).1 o), none, none]) ⟨rfl, trivial⟩ ?_
    exact k12 hf
  · refine s_iload_n C dX10_cellOf_4 rfl ?_
    refine s_aload_n C dX10_cellOf_5 rfl ?_
    refine s_getI C fl_X10_37 dX10_cellOf_6 hf (fun v7 hf => ?_)
    refine s_icmp_lt (tgt := 16) C dX10_cellOf_9 (by decide) hf (fun hf => ?_) (fun hf => ?_)
    · refine s_aload_n C dX10_cellOf_16 rfl ?_
      refine s_getR C fl_X10_21 dX10_cellOf_17 hf (fun v8 hf => ?_)
      refine s_iload_n C dX10_cellOf_20 rfl ?_
      refine s_aaload C dX10_cellOf_21 (by decide) hf (fun v9 hf => ?_)
      refine s_weak (lv' := [some (rB (xD X).1 o), none, none]) ⟨rfl, trivial⟩ ?_
      exact k22 _ hf
    · refine s_weak (lv' := [some (rB (xD X).1 o), none, none]) ⟨rfl, trivial⟩ ?_
      exact k12 hf
/-- HillBoxes$Walks.setOut(I)V -/
noncomputable def f_X10_setOut (o : Option Nat) (a1 : Int32) (h : AH) : Option (Unit × AH) :=
  nz (24 : Int32) <|
  pI h [10] o 13 (a1 / (24 : Int32)) fun h1 =>
  nz (24 : Int32) <|
  pI h1 [10] o 14 (a1 - a1 / (24 : Int32) * (24 : Int32)) fun h2 =>
  some ((), h2)
set_option maxRecDepth 100000 in
set_option maxHeartbeats 4000000 in
theorem c_X10_setOut (l : Launch) (D : DT) (o : Option Nat) (a1 : Int32) (h : AH) (r : Unit × AH) (hf : f_X10_setOut o a1 h = some r) : CM l D yX10_setOut cX10_setOut 2 none 0 0 0 0 [.inr (.inr o), .inl a1] h none r.2 := by
  refine CM.of (by decide) (Nat.le_of_ble_eq_true rfl) (fun X hl C hD hX hnm E => ?_)
  subst hl
  subst hD
  have C : CX X RX10 cX10_setOut 2 := C
  show WW X h 0 0 0 [some (rB (xD X).1 o), some (.int a1)] []
  unfold f_X10_setOut at hf
  refine s_aload_n C dX10_setOut_0 rfl ?_
  refine s_iload_n C dX10_setOut_1 rfl ?_
  refine s_bipush C dX10_setOut_2 (v := (24 : Int32)) (by decide) ?_
  refine s_idiv C dX10_setOut_4 hf (fun hf => ?_)
  refine s_putI C fl_X10_53 (by decide) dX10_setOut_5 hf (fun h1 hf => ?_)
  refine s_aload_n C dX10_setOut_8 rfl ?_
  refine s_iload_n C dX10_setOut_9 rfl ?_
  refine s_bipush C dX10_setOut_10 (v := (24 : Int32)) (by decide) ?_
  refine s_irem C dX10_setOut_12 hf (fun hf => ?_)
  refine s_putI C fl_X10_60 (by decide) dX10_setOut_13 hf (fun h2 hf => ?_)
  exact s_return C E dX10_setOut_16 hf (Nat.le_of_ble_eq_true rfl) (Nat.le_of_ble_eq_true rfl)
/-- HillBoxes$Walks.timeBehind(III)I -/
noncomputable def f_X10_timeBehind (o : Option Nat) (a1 : Int32) (a2 : Int32) (a3 : Int32) (h : AH) : Option (Int32 × AH) :=
  rO h [10] o <| cl (f_X10_cellOf o a1 h) fun v2 h1 =>
  cl (f_X11_hoursBetween a2 v2 h1) fun v4 h3 =>
  fR h3 [10] o 4 fun v5 =>
  aR h3 26 v5 a1 fun v6 =>
  fI h3 [10] o 14 fun v7 =>
  nz (24 : Int32) <|
  jn (fun (x8 : Int32) (h9 : AH) =>
    fR h9 [10] o 6 fun v10 =>
    aI h9 20 v10 a1 fun v11 =>
    some ((x8 + v11), h9)) fun j65 =>
  if v6 = none then
    j65 (a3 + v4) h3
  else
    fI h3 [1] v6 1 fun v12 =>
    if v12 = (5 : Int32) then
      cl (f_X11_isNightHour ((v7 + (a3 + v4)) - (v7 + (a3 + v4)) / (24 : Int32) * (24 : Int32)) h3) fun v14 h13 =>
      if v14 = 0 then
        j65 ((a3 + v4) + ((20 : Int32) - ((v7 + (a3 + v4)) - (v7 + (a3 + v4)) / (24 : Int32) * (24 : Int32)))) h13
      else
        j65 (a3 + v4) h13
    else
      j65 (a3 + v4) h3
set_option maxRecDepth 100000 in
set_option maxHeartbeats 4000000 in
theorem c_X10_timeBehind (l : Launch) (D : DT) (o : Option Nat) (a1 : Int32) (a2 : Int32) (a3 : Int32) (h : AH) (r : Int32 × AH) (hf : f_X10_timeBehind o a1 a2 a3 h = some r) : CM l D yX10_timeBehind cX10_timeBehind 7 (some .int) 3 63 0 0 [.inr (.inr o), .inl a1, .inl a2, .inl a3] h (some (.int r.1)) r.2 := by
  refine CM.of (by decide) (Nat.le_of_ble_eq_true rfl) (fun X hl C hD hX hnm E => ?_)
  subst hl
  subst hD
  have C : CX X RX10 cX10_timeBehind 7 := C
  show WW X h 0 0 0 [some (rB (xD X).1 o), some (.int a1), some (.int a2), some (.int a3), none, none, none] []
  unfold f_X10_timeBehind at hf
  refine s_iload_n C dX10_timeBehind_0 rfl ?_
  refine s_iload_n C dX10_timeBehind_1 rfl ?_
  refine s_aload_n C dX10_timeBehind_2 rfl ?_
  refine s_iload_n C dX10_timeBehind_3 rfl ?_
  refine s_callV (rvf := fun x => some (.int x)) (st := [.int a2, .int a3]) (fr := 1) (lo := 20) (mc := 0) (ms := 0) C [10] wc_X10_cellOf wml_X10_71 wim_X10_cellOf wsl_10_X10_cellOf dX10_timeBehind_4 (As := [.inl a1]) rfl hf (fun x h' hF => c_X10_cellOf _ _ _ _ _ (x, h') hF) rfl (Nat.le_of_ble_eq_true rfl) (room_ok hX (Nat.le_of_ble_eq_true rfl) (Nat.le_of_ble_eq_true rfl)) (cell_ok hX (Nat.le_of_ble_eq_true rfl) (Nat.le_of_ble_eq_true rfl)) (fun v2 h1 hf => ?_)
  refine s_callSN (rvf := fun x => some (.int x)) (st := [.int a3]) (fr := 2) (lo := 42) (mc := 0) (ms := 0) C wc_X11_hoursBetween wmn_X10_75 wst_X11_hoursBetween dX10_timeBehind_7 (As := [.inl a2, .inl v2]) rfl hf (fun x h' hF => c_X11_hoursBetween _ _ _ _ _ (x, h') hF) rfl (Nat.le_of_ble_eq_true rfl) (room_ok hX (Nat.le_of_ble_eq_true rfl) (Nat.le_of_ble_eq_true rfl)) (cell_ok hX (Nat.le_of_ble_eq_true rfl) (Nat.le_of_ble_eq_true rfl)) (fun v4 h3 hf => ?_)
  refine s_iadd C dX10_timeBehind_10 ?_
  refine s_istore C dX10_timeBehind_11 (by decide) (nc_i rfl) (lv' := [some (rB (xD X).1 o), some (.int a1), some (.int a2), some (.int a3), some (.int (a3 + v4)), none, none]) rfl ?_
  refine s_aload_n C dX10_timeBehind_13 rfl ?_
  refine s_getR C fl_X10_21 dX10_timeBehind_14 hf (fun v5 hf => ?_)
  refine s_iload_n C dX10_timeBehind_17 rfl ?_
  refine s_aaload C dX10_timeBehind_18 (by decide) hf (fun v6 hf => ?_)
  refine s_astore C dX10_timeBehind_19 (by decide) (nc_i rfl) (lv' := [some (rB (xD X).1 o), some (.int a1), some (.int a2), some (.int a3), some (.int (a3 + v4)), some (rB (xD X).1 v6), none]) rfl ?_
  refine s_aload_n C dX10_timeBehind_21 rfl ?_
  refine s_getI C fl_X10_60 dX10_timeBehind_22 hf (fun v7 hf => ?_)
  refine s_iload C dX10_timeBehind_25 rfl ?_
  refine s_iadd C dX10_timeBehind_27 ?_
  refine s_bipush C dX10_timeBehind_28 (v := (24 : Int32)) (by decide) ?_
  refine s_irem C dX10_timeBehind_30 hf (fun hf => ?_)
  refine s_istore C dX10_timeBehind_31 (by decide) (nc_r rfl) (lv' := [some (rB (xD X).1 o), some (.int a1), some (.int a2), some (.int a3), some (.int (a3 + v4)), some (rB (xD X).1 v6), some (.int ((v7 + (a3 + v4)) - (v7 + (a3 + v4)) / (24 : Int32) * (24 : Int32)))]) rfl ?_
  refine s_aload C dX10_timeBehind_33 rfl ?_
  refine s_jn hf (fun j65 e65 hf => ?_)
  have k65 : ∀ (x8 : Int32) (h9 : AH), j65 x8 h9 = some r → WW X h9 0 0 65 [some (rB (xD X).1 o), some (.int a1), none, none, some (.int x8), none, none] [] := by
    intro x8 h9 hf
    rw [e65] at hf
    refine s_iload C dX10_timeBehind_65 rfl ?_
    refine s_aload_n C dX10_timeBehind_67 rfl ?_
    refine s_getR C fl_X10_28 dX10_timeBehind_68 hf (fun v10 hf => ?_)
    refine s_iload_n C dX10_timeBehind_71 rfl ?_
    refine s_iaload C dX10_timeBehind_72 hf (fun v11 hf => ?_)
    refine s_iadd C dX10_timeBehind_73 ?_
    exact s_ireturn C E dX10_timeBehind_74 hf (Nat.le_of_ble_eq_true rfl) (Nat.le_of_ble_eq_true rfl)
  refine s_ifnull (tgt := 65) C dX10_timeBehind_35 (by decide) hf (fun hf => ?_) (fun hf => ?_)
  · refine s_weak (lv' := [some (rB (xD X).1 o), some (.int a1), none, none, some (.int (a3 + v4)), none, none]) ⟨rfl, ⟨rfl, ⟨rfl, trivial⟩⟩⟩ ?_
    exact k65 _ _ hf
  · refine s_aload C dX10_timeBehind_38 rfl ?_
    refine s_getI C fl_X10_87 dX10_timeBehind_40 hf (fun v12 hf => ?_)
    refine s_iconst C dX10_timeBehind_43 (v := (5 : Int32)) (by decide) ?_
    refine s_icmp_ne (tgt := 65) C dX10_timeBehind_44 (by decide) hf (fun hf => ?_) (fun hf => ?_)
    · refine s_weak (lv' := [some (rB (xD X).1 o), some (.int a1), none, none, some (.int (a3 + v4)), none, none]) ⟨rfl, ⟨rfl, ⟨rfl, trivial⟩⟩⟩ ?_
      exact k65 _ _ hf
    · refine s_iload C dX10_timeBehind_47 rfl ?_
      refine s_callSN (rvf := fun x => some (.int x)) (st := []) (fr := 0) (lo := 0) (mc := 0) (ms := 0) C wc_X11_isNightHour wmn_X10_90 wst_X11_isNightHour dX10_timeBehind_49 (As := [.inl ((v7 + (a3 + v4)) - (v7 + (a3 + v4)) / (24 : Int32) * (24 : Int32))]) rfl hf (fun x h' hF => c_X11_isNightHour _ _ _ _ (x, h') hF) rfl (Nat.le_of_ble_eq_true rfl) (room_ok hX (Nat.le_of_ble_eq_true rfl) (Nat.le_of_ble_eq_true rfl)) (cell_ok hX (Nat.le_of_ble_eq_true rfl) (Nat.le_of_ble_eq_true rfl)) (fun v14 h13 hf => ?_)
      refine s_if_ne (tgt := 65) C dX10_timeBehind_52 (by decide) hf (fun hf => ?_) (fun hf => ?_)
      · refine s_weak (lv' := [some (rB (xD X).1 o), some (.int a1), none, none, some (.int (a3 + v4)), none, none]) ⟨rfl, ⟨rfl, ⟨rfl, trivial⟩⟩⟩ ?_
        exact k65 _ _ hf
      · refine s_iload C dX10_timeBehind_55 rfl ?_
        refine s_bipush C dX10_timeBehind_57 (v := (20 : Int32)) (by decide) ?_
        refine s_iload C dX10_timeBehind_59 rfl ?_
        refine s_isub C dX10_timeBehind_61 ?_
        refine s_iadd C dX10_timeBehind_62 ?_
        refine s_istore C dX10_timeBehind_63 (by decide) (nc_i rfl) (lv' := [some (rB (xD X).1 o), some (.int a1), some (.int a2), some (.int a3), some (.int ((a3 + v4) + ((20 : Int32) - ((v7 + (a3 + v4)) - (v7 + (a3 + v4)) / (24 : Int32) * (24 : Int32))))), some (rB (xD X).1 v6), some (.int ((v7 + (a3 + v4)) - (v7 + (a3 + v4)) / (24 : Int32) * (24 : Int32)))]) rfl ?_
        refine s_weak (lv' := [some (rB (xD X).1 o), some (.int a1), none, none, some (.int ((a3 + v4) + ((20 : Int32) - ((v7 + (a3 + v4)) - (v7 + (a3 + v4)) / (24 : Int32) * (24 : Int32))))), none, none]) ⟨rfl, ⟨rfl, ⟨rfl, trivial⟩⟩⟩ ?_
        exact k65 _ _ hf
/-- HillBoxes$Walks.hoursOfRow(I)I -/
noncomputable def f_X10_hoursOfRow (o : Option Nat) (a1 : Int32) (h : AH) : Option (Int32 × AH) :=
  rO h [10] o <| cl (f_X10_setOut o a1 h) fun _ h1 =>
  fI h1 [10] o 13 fun v2 =>
  fI h1 [10] o 8 fun v3 =>
  lp (fun _ _ _ _ => none) (fun (L20 : Int32 → Int32 → Int32 → AH → Option (Int32 × AH)) (x4 : Int32) (x5 : Int32) (x6 : Int32) (h7 : AH) =>
    if x6 < 0 then
      fI h7 [10] o 13 fun v8 =>
      cl (f_X11_hoursBetween x4 v8 h7) fun v10 h9 =>
      some ((x5 + v10), h9)
    else
      fR h7 [10] o 7 fun v11 =>
      aI h7 20 v11 x6 fun v12 =>
      rO h7 [10] o <| cl (f_X10_timeBehind o v12 x4 x5 h7) fun v14 h13 =>
      fR h13 [10] o 7 fun v15 =>
      aI h13 20 v15 x6 fun v16 =>
      rO h13 [10] o <| cl (f_X10_cellOf o v16 h13) fun v18 h17 =>
      L20 v18 v14 (x6 + (-1)) h17) lpN v2 (0 : Int32) (v3 - (1 : Int32)) h1
set_option maxRecDepth 100000 in
set_option maxHeartbeats 4000000 in
theorem c_X10_hoursOfRow (l : Launch) (D : DT) (o : Option Nat) (a1 : Int32) (h : AH) (r : Int32 × AH) (hf : f_X10_hoursOfRow o a1 h = some r) : CM l D yX10_hoursOfRow cX10_hoursOfRow 5 (some .int) 4 89 0 0 [.inr (.inr o), .inl a1] h (some (.int r.1)) r.2 := by
  refine CM.of (by decide) (Nat.le_of_ble_eq_true rfl) (fun X hl C hD hX hnm E => ?_)
  subst hl
  subst hD
  have C : CX X RX10 cX10_hoursOfRow 5 := C
  show WW X h 0 0 0 [some (rB (xD X).1 o), some (.int a1), none, none, none] []
  unfold f_X10_hoursOfRow at hf
  refine s_aload_n C dX10_hoursOfRow_0 rfl ?_
  refine s_iload_n C dX10_hoursOfRow_1 rfl ?_
  refine s_callV (rvf := fun _ => none) (st := []) (fr := 0) (lo := 0) (mc := 0) (ms := 0) C [10] wc_X10_setOut wml_X10_43 wim_X10_setOut wsl_10_X10_setOut dX10_hoursOfRow_2 (As := [.inl a1]) rfl hf (fun x h' hF => c_X10_setOut _ _ _ _ _ (x, h') hF) rfl (Nat.le_of_ble_eq_true rfl) (room_ok hX (Nat.le_of_ble_eq_true rfl) (Nat.le_of_ble_eq_true rfl)) (cell_ok hX (Nat.le_of_ble_eq_true rfl) (Nat.le_of_ble_eq_true rfl)) (fun _ h1 hf => ?_)
  refine s_aload_n C dX10_hoursOfRow_5 rfl ?_
  refine s_getI C fl_X10_53 dX10_hoursOfRow_6 hf (fun v2 hf => ?_)
  refine s_istore_n C dX10_hoursOfRow_9 (by decide) (nc_i rfl) (lv' := [some (rB (xD X).1 o), some (.int a1), some (.int v2), none, none]) rfl ?_
  refine s_iconst C dX10_hoursOfRow_10 (v := (0 : Int32)) (by decide) ?_
  refine s_istore_n C dX10_hoursOfRow_11 (by decide) (nc_i rfl) (lv' := [some (rB (xD X).1 o), some (.int a1), some (.int v2), some (.int (0 : Int32)), none]) rfl ?_
  refine s_aload_n C dX10_hoursOfRow_12 rfl ?_
  refine s_getI C fl_X10_109 dX10_hoursOfRow_13 hf (fun v3 hf => ?_)
  refine s_iconst C dX10_hoursOfRow_16 (v := (1 : Int32)) (by decide) ?_
  refine s_isub C dX10_hoursOfRow_17 ?_
  refine s_istore C dX10_hoursOfRow_18 (by decide) (nc_i rfl) (lv' := [some (rB (xD X).1 o), some (.int a1), some (.int v2), some (.int (0 : Int32)), some (.int (v3 - (1 : Int32)))]) rfl ?_
  refine s_lp4 hf (fun G20 z20 q20 hf => ?_)
  have k20 : ∀ (n : Nat) (x4 : Int32) (x5 : Int32) (x6 : Int32) (h7 : AH), G20 n x4 x5 x6 h7 = some r → WW X h7 0 0 20 [some (rB (xD X).1 o), none, some (.int x4), some (.int x5), some (.int x6)] [] := by
    intro n
    induction n with
    | zero =>
      intro x4 x5 x6 h7 hf
      rw [z20] at hf
      cases hf
    | succ n ih20 =>
      intro x4 x5 x6 h7 hf
      have hf := (q20 n x4 x5 x6 h7).symm.trans hf
      refine s_iload C dX10_hoursOfRow_20 rfl ?_
      refine s_if_lt (tgt := 57) C dX10_hoursOfRow_22 (by decide) hf (fun hf => ?_) (fun hf => ?_)
      · refine s_iload_n C dX10_hoursOfRow_57 rfl ?_
        refine s_iload_n C dX10_hoursOfRow_58 rfl ?_
        refine s_aload_n C dX10_hoursOfRow_59 rfl ?_
        refine s_getI C fl_X10_53 dX10_hoursOfRow_60 hf (fun v8 hf => ?_)
        refine s_callSN (rvf := fun x => some (.int x)) (st := [.int x5]) (fr := 2) (lo := 42) (mc := 0) (ms := 0) C wc_X11_hoursBetween wmn_X10_75 wst_X11_hoursBetween dX10_hoursOfRow_63 (As := [.inl x4, .inl v8]) rfl hf (fun x h' hF => c_X11_hoursBetween _ _ _ _ _ (x, h') hF) rfl (Nat.le_of_ble_eq_true rfl) (room_ok hX (Nat.le_of_ble_eq_true rfl) (Nat.le_of_ble_eq_true rfl)) (cell_ok hX (Nat.le_of_ble_eq_true rfl) (Nat.le_of_ble_eq_true rfl)) (fun v10 h9 hf => ?_)
        refine s_iadd C dX10_hoursOfRow_66 ?_
        exact s_ireturn C E dX10_hoursOfRow_67 hf (Nat.le_of_ble_eq_true rfl) (Nat.le_of_ble_eq_true rfl)
      · refine s_aload_n C dX10_hoursOfRow_25 rfl ?_
        refine s_aload_n C dX10_hoursOfRow_26 rfl ?_
        refine s_getR C fl_X10_31 dX10_hoursOfRow_27 hf (fun v11 hf => ?_)
        refine s_iload C dX10_hoursOfRow_30 rfl ?_
        refine s_iaload C dX10_hoursOfRow_32 hf (fun v12 hf => ?_)
        refine s_iload_n C dX10_hoursOfRow_33 rfl ?_
        refine s_iload_n C dX10_hoursOfRow_34 rfl ?_
        refine s_callV (rvf := fun x => some (.int x)) (st := []) (fr := 3) (lo := 63) (mc := 0) (ms := 0) C [10] wc_X10_timeBehind wml_X10_63 wim_X10_timeBehind wsl_10_X10_timeBehind dX10_hoursOfRow_35 (As := [.inl v12, .inl x4, .inl x5]) rfl hf (fun x h' hF => c_X10_timeBehind _ _ _ _ _ _ _ (x, h') hF) rfl (Nat.le_of_ble_eq_true rfl) (room_ok hX (Nat.le_of_ble_eq_true rfl) (Nat.le_of_ble_eq_true rfl)) (cell_ok hX (Nat.le_of_ble_eq_true rfl) (Nat.le_of_ble_eq_true rfl)) (fun v14 h13 hf => ?_)
        refine s_istore_n C dX10_hoursOfRow_38 (by decide) (nc_i rfl) (lv' := [some (rB (xD X).1 o), none, some (.int x4), some (.int v14), some (.int x6)]) rfl ?_
        refine s_aload_n C dX10_hoursOfRow_39 rfl ?_
        refine s_aload_n C dX10_hoursOfRow_40 rfl ?_
        refine s_getR C fl_X10_31 dX10_hoursOfRow_41 hf (fun v15 hf => ?_)
        refine s_iload C dX10_hoursOfRow_44 rfl ?_
        refine s_iaload C dX10_hoursOfRow_46 hf (fun v16 hf => ?_)
        refine s_callV (rvf := fun x => some (.int x)) (st := []) (fr := 1) (lo := 20) (mc := 0) (ms := 0) C [10] wc_X10_cellOf wml_X10_71 wim_X10_cellOf wsl_10_X10_cellOf dX10_hoursOfRow_47 (As := [.inl v16]) rfl hf (fun x h' hF => c_X10_cellOf _ _ _ _ _ (x, h') hF) rfl (Nat.le_of_ble_eq_true rfl) (room_ok hX (Nat.le_of_ble_eq_true rfl) (Nat.le_of_ble_eq_true rfl)) (cell_ok hX (Nat.le_of_ble_eq_true rfl) (Nat.le_of_ble_eq_true rfl)) (fun v18 h17 hf => ?_)
        refine s_istore_n C dX10_hoursOfRow_50 (by decide) (nc_n rfl) (lv' := [some (rB (xD X).1 o), none, some (.int v18), some (.int v14), some (.int x6)]) rfl ?_
        refine s_iinc C dX10_hoursOfRow_51 (v := (x6 + (-1))) rfl rfl (by decide) (nc_i rfl) (lv' := [some (rB (xD X).1 o), none, some (.int v18), some (.int v14), some (.int (x6 + (-1)))]) rfl ?_
        refine s_goto (tgt := 20) C dX10_hoursOfRow_54 (by decide) ?_
        exact ih20 _ _ _ _ hf
  refine s_weak (lv' := [some (rB (xD X).1 o), none, some (.int v2), some (.int (0 : Int32)), some (.int (v3 - (1 : Int32)))]) ⟨rfl, ⟨rfl, ⟨rfl, ⟨rfl, trivial⟩⟩⟩⟩ ?_
  exact k20 lpN _ _ _ _ hf
/-- HillBoxes$Walks.isSetOut(II)Z -/
noncomputable def f_X10_isSetOut (a0 : Int32) (a1 : Int32) (h : AH) : Option (Int32 × AH) :=
  jn (fun (x1 : Int32) =>
    rz x1 h) fun j27 =>
  jn (
    j27 (0 : Int32)) fun j26 =>
  if a0 < 0 then
    j26
  else
    if (1440 : Int32) ≤ a0 then
      j26
    else
      if a1 < (1 : Int32) then
        j26
      else
        if (48 : Int32) < a1 then
          j26
        else
          j27 (1 : Int32)
set_option maxRecDepth 100000 in
set_option maxHeartbeats 4000000 in
theorem c_X10_isSetOut (l : Launch) (D : DT) (a0 : Int32) (a1 : Int32) (h : AH) (r : Int32 × AH) (hf : f_X10_isSetOut a0 a1 h = some r) : CM l D yX10_isSetOut cX10_isSetOut 2 (some .boolean) 0 0 0 0 [.inl a0, .inl a1] h (some (.int r.1)) r.2 := by
  refine CM.of (by decide) (Nat.le_of_ble_eq_true rfl) (fun X hl C hD hX hnm E => ?_)
  subst hl
  subst hD
  have C : CX X RX10 cX10_isSetOut 2 := C
  show WW X h 0 0 0 [some (.int a0), some (.int a1)] []
  unfold f_X10_isSetOut at hf
  refine s_iload_n C dX10_isSetOut_0 rfl ?_
  refine s_jn hf (fun j27 e27 hf => ?_)
  have k27 : ∀ (x1 : Int32), j27 x1 = some r → WW X h 0 0 27 [none, none] [.int x1] := by
    intro x1 hf
    rw [e27] at hf
    exact s_zreturn C E dX10_isSetOut_27 hf (Nat.le_of_ble_eq_true rfl) (Nat.le_of_ble_eq_true rfl)
  refine s_jn hf (fun j26 e26 hf => ?_)
  have k26 : j26  = some r → WW X h 0 0 26 [none, none] [] := by
    intro  hf
    rw [e26] at hf
    refine s_iconst C dX10_isSetOut_26 (v := (0 : Int32)) (by decide) ?_
    exact k27 _ hf
  refine s_if_lt (tgt := 26) C dX10_isSetOut_1 (by decide) hf (fun hf => ?_) (fun hf => ?_)
  · refine s_weak (lv' := [none, none]) trivial ?_
    exact k26 hf
  · refine s_iload_n C dX10_isSetOut_4 rfl ?_
    refine s_sipush C dX10_isSetOut_5 (v := (1440 : Int32)) (by decide) ?_
    refine s_icmp_ge (tgt := 26) C dX10_isSetOut_8 (by decide) hf (fun hf => ?_) (fun hf => ?_)
    · refine s_weak (lv' := [none, none]) trivial ?_
      exact k26 hf
    · refine s_iload_n C dX10_isSetOut_11 rfl ?_
      refine s_iconst C dX10_isSetOut_12 (v := (1 : Int32)) (by decide) ?_
      refine s_icmp_lt (tgt := 26) C dX10_isSetOut_13 (by decide) hf (fun hf => ?_) (fun hf => ?_)
      · refine s_weak (lv' := [none, none]) trivial ?_
        exact k26 hf
      · refine s_iload_n C dX10_isSetOut_16 rfl ?_
        refine s_bipush C dX10_isSetOut_17 (v := (48 : Int32)) (by decide) ?_
        refine s_icmp_gt (tgt := 26) C dX10_isSetOut_19 (by decide) hf (fun hf => ?_) (fun hf => ?_)
        · refine s_weak (lv' := [none, none]) trivial ?_
          exact k26 hf
        · refine s_iconst C dX10_isSetOut_22 (v := (1 : Int32)) (by decide) ?_
          refine s_goto (tgt := 27) C dX10_isSetOut_23 (by decide) ?_
          refine s_weak (lv' := [none, none]) trivial ?_
          exact k27 _ hf
/-- HillBoxes$Walks.readRow(I)Z -/
noncomputable def f_X10_readRow (o : Option Nat) (a1 : Int32) (h : AH) : Option (Int32 × AH) :=
  pI h [10] o 8 (0 : Int32) fun h1 =>
  lp (fun _ _ _ _ => none) (fun (L12 : Int32 → Int32 → Int32 → AH → Option (Int32 × AH)) (x2 : Int32) (x3 : Int32) (x4 : Int32) (h5 : AH) =>
    jn (
      fI h5 [10] o 8 fun v6 =>
      jn (fun (x7 : Int32) =>
        rz x7 h5) fun j107 =>
      jn (
        j107 (0 : Int32)) fun j106 =>
      if v6 ≤ 0 then
        j106
      else
        if x3 = 0 then
          j107 (1 : Int32)
        else
          j106) fun j91 =>
    if (7 : Int32) ≤ x4 then
      j91
    else
      if x3 ≤ 0 then
        j91
      else
        nz (10 : Int32) <|
        jn (
          rz (0 : Int32) h5) fun j54 =>
        if ((x3 - x3 / (10 : Int32) * (10 : Int32)) - (1 : Int32)) < 0 then
          j54
        else
          fI h5 [10] o 0 fun v8 =>
          if v8 ≤ ((x3 - x3 / (10 : Int32) * (10 : Int32)) - (1 : Int32)) then
            j54
          else
            if ((x2 >>> (((x3 - x3 / (10 : Int32) * (10 : Int32)) - (1 : Int32)) &&& 31)) &&& (1 : Int32)) = 0 then
              fR h5 [10] o 7 fun v9 =>
              bI h5 20 v9 x4 ((x3 - x3 / (10 : Int32) * (10 : Int32)) - (1 : Int32)) fun h10 =>
              pI h10 [10] o 8 (x4 + (1 : Int32)) fun h11 =>
              nz (10 : Int32) <|
              L12 (x2 ||| ((1 : Int32) <<< (((x3 - x3 / (10 : Int32) * (10 : Int32)) - (1 : Int32)) &&& 31))) (x3 / (10 : Int32)) (x4 + 1) h11
            else
              j54) lpN (0 : Int32) a1 (0 : Int32) h1
set_option maxRecDepth 100000 in
set_option maxHeartbeats 4000000 in
theorem c_X10_readRow (l : Launch) (D : DT) (o : Option Nat) (a1 : Int32) (h : AH) (r : Int32 × AH) (hf : f_X10_readRow o a1 h = some r) : CM l D yX10_readRow cX10_readRow 6 (some .boolean) 0 0 0 0 [.inr (.inr o), .inl a1] h (some (.int r.1)) r.2 := by
  refine CM.of (by decide) (Nat.le_of_ble_eq_true rfl) (fun X hl C hD hX hnm E => ?_)
  subst hl
  subst hD
  have C : CX X RX10 cX10_readRow 6 := C
  show WW X h 0 0 0 [some (rB (xD X).1 o), some (.int a1), none, none, none, none] []
  unfold f_X10_readRow at hf
  refine s_iconst C dX10_readRow_0 (v := (0 : Int32)) (by decide) ?_
  refine s_istore_n C dX10_readRow_1 (by decide) (nc_i rfl) (lv' := [some (rB (xD X).1 o), some (.int a1), some (.int (0 : Int32)), none, none, none]) rfl ?_
  refine s_iload_n C dX10_readRow_2 rfl ?_
  refine s_istore_n C dX10_readRow_3 (by decide) (nc_i rfl) (lv' := [some (rB (xD X).1 o), some (.int a1), some (.int (0 : Int32)), some (.int a1), none, none]) rfl ?_
  refine s_aload_n C dX10_readRow_4 rfl ?_
  refine s_iconst C dX10_readRow_5 (v := (0 : Int32)) (by decide) ?_
  refine s_putI C fl_X10_109 (by decide) dX10_readRow_6 hf (fun h1 hf => ?_)
  refine s_iconst C dX10_readRow_9 (v := (0 : Int32)) (by decide) ?_
  refine s_istore C dX10_readRow_10 (by decide) (nc_i rfl) (lv' := [some (rB (xD X).1 o), some (.int a1), some (.int (0 : Int32)), some (.int a1), some (.int (0 : Int32)), none]) rfl ?_
  refine s_lp4 hf (fun G12 z12 q12 hf => ?_)
  have k12 : ∀ (n : Nat) (x2 : Int32) (x3 : Int32) (x4 : Int32) (h5 : AH), G12 n x2 x3 x4 h5 = some r → WW X h5 0 0 12 [some (rB (xD X).1 o), none, some (.int x2), some (.int x3), some (.int x4), none] [] := by
    intro n
    induction n with
    | zero =>
      intro x2 x3 x4 h5 hf
      rw [z12] at hf
      cases hf
    | succ n ih12 =>
      intro x2 x3 x4 h5 hf
      have hf := (q12 n x2 x3 x4 h5).symm.trans hf
      refine s_iload C dX10_readRow_12 rfl ?_
      refine s_bipush C dX10_readRow_14 (v := (7 : Int32)) (by decide) ?_
      refine s_jn hf (fun j91 e91 hf => ?_)
      have k91 : j91  = some r → WW X h5 0 0 91 [some (rB (xD X).1 o), none, none, some (.int x3), none, none] [] := by
        intro  hf
        rw [e91] at hf
        refine s_aload_n C dX10_readRow_91 rfl ?_
        refine s_getI C fl_X10_109 dX10_readRow_92 hf (fun v6 hf => ?_)
        refine s_jn hf (fun j107 e107 hf => ?_)
        have k107 : ∀ (x7 : Int32), j107 x7 = some r → WW X h5 0 0 107 [none, none, none, none, none, none] [.int x7] := by
          intro x7 hf
          rw [e107] at hf
          exact s_zreturn C E dX10_readRow_107 hf (Nat.le_of_ble_eq_true rfl) (Nat.le_of_ble_eq_true rfl)
        refine s_jn hf (fun j106 e106 hf => ?_)
        have k106 : j106  = some r → WW X h5 0 0 106 [none, none, none, none, none, none] [] := by
          intro  hf
          rw [e106] at hf
          refine s_iconst C dX10_readRow_106 (v := (0 : Int32)) (by decide) ?_
          exact k107 _ hf
        refine s_if_le (tgt := 106) C dX10_readRow_95 (by decide) hf (fun hf => ?_) (fun hf => ?_)
        · refine s_weak (lv' := [none, none, none, none, none, none]) trivial ?_
          exact k106 hf
        · refine s_iload_n C dX10_readRow_98 rfl ?_
          refine s_if_ne (tgt := 106) C dX10_readRow_99 (by decide) hf (fun hf => ?_) (fun hf => ?_)
          · refine s_weak (lv' := [none, none, none, none, none, none]) trivial ?_
            exact k106 hf
          · refine s_iconst C dX10_readRow_102 (v := (1 : Int32)) (by decide) ?_
            refine s_goto (tgt := 107) C dX10_readRow_103 (by decide) ?_
            refine s_weak (lv' := [none, none, none, none, none, none]) trivial ?_
            exact k107 _ hf
      refine s_icmp_ge (tgt := 91) C dX10_readRow_16 (by decide) hf (fun hf => ?_) (fun hf => ?_)
      · refine s_weak (lv' := [some (rB (xD X).1 o), none, none, some (.int x3), none, none]) ⟨rfl, ⟨rfl, trivial⟩⟩ ?_
        exact k91 hf
      · refine s_iload_n C dX10_readRow_19 rfl ?_
        refine s_if_le (tgt := 91) C dX10_readRow_20 (by decide) hf (fun hf => ?_) (fun hf => ?_)
        · refine s_weak (lv' := [some (rB (xD X).1 o), none, none, some (.int x3), none, none]) ⟨rfl, ⟨rfl, trivial⟩⟩ ?_
          exact k91 hf
        · refine s_iload_n C dX10_readRow_23 rfl ?_
          refine s_bipush C dX10_readRow_24 (v := (10 : Int32)) (by decide) ?_
          refine s_irem C dX10_readRow_26 hf (fun hf => ?_)
          refine s_iconst C dX10_readRow_27 (v := (1 : Int32)) (by decide) ?_
          refine s_isub C dX10_readRow_28 ?_
          refine s_istore C dX10_readRow_29 (by decide) (nc_i rfl) (lv' := [some (rB (xD X).1 o), none, some (.int x2), some (.int x3), some (.int x4), some (.int ((x3 - x3 / (10 : Int32) * (10 : Int32)) - (1 : Int32)))]) rfl ?_
          refine s_iload C dX10_readRow_31 rfl ?_
          refine s_jn hf (fun j54 e54 hf => ?_)
          have k54 : j54  = some r → WW X h5 0 0 54 [none, none, none, none, none, none] [] := by
            intro  hf
            rw [e54] at hf
            refine s_iconst C dX10_readRow_54 (v := (0 : Int32)) (by decide) ?_
            exact s_zreturn C E dX10_readRow_55 hf (Nat.le_of_ble_eq_true rfl) (Nat.le_of_ble_eq_true rfl)
          refine s_if_lt (tgt := 54) C dX10_readRow_33 (by decide) hf (fun hf => ?_) (fun hf => ?_)
          · refine s_weak (lv' := [none, none, none, none, none, none]) trivial ?_
            exact k54 hf
          · refine s_iload C dX10_readRow_36 rfl ?_
            refine s_aload_n C dX10_readRow_38 rfl ?_
            refine s_getI C fl_X10_37 dX10_readRow_39 hf (fun v8 hf => ?_)
            refine s_icmp_ge (tgt := 54) C dX10_readRow_42 (by decide) hf (fun hf => ?_) (fun hf => ?_)
            · refine s_weak (lv' := [none, none, none, none, none, none]) trivial ?_
              exact k54 hf
            · refine s_iload_n C dX10_readRow_45 rfl ?_
              refine s_iload C dX10_readRow_46 rfl ?_
              refine s_ishr C dX10_readRow_48 ?_
              refine s_iconst C dX10_readRow_49 (v := (1 : Int32)) (by decide) ?_
              refine s_iand C dX10_readRow_50 ?_
              refine s_if_eq (tgt := 56) C dX10_readRow_51 (by decide) hf (fun hf => ?_) (fun hf => ?_)
              · refine s_iload_n C dX10_readRow_56 rfl ?_
                refine s_iconst C dX10_readRow_57 (v := (1 : Int32)) (by decide) ?_
                refine s_iload C dX10_readRow_58 rfl ?_
                refine s_ishl C dX10_readRow_60 ?_
                refine s_ior C dX10_readRow_61 ?_
                refine s_istore_n C dX10_readRow_62 (by decide) (nc_n rfl) (lv' := [some (rB (xD X).1 o), none, some (.int (x2 ||| ((1 : Int32) <<< (((x3 - x3 / (10 : Int32) * (10 : Int32)) - (1 : Int32)) &&& 31)))), some (.int x3), some (.int x4), some (.int ((x3 - x3 / (10 : Int32) * (10 : Int32)) - (1 : Int32)))]) rfl ?_
                refine s_aload_n C dX10_readRow_63 rfl ?_
                refine s_getR C fl_X10_31 dX10_readRow_64 hf (fun v9 hf => ?_)
                refine s_iload C dX10_readRow_67 rfl ?_
                refine s_iload C dX10_readRow_69 rfl ?_
                refine s_iastore C dX10_readRow_71 hf (fun h10 hf => ?_)
                refine s_aload_n C dX10_readRow_72 rfl ?_
                refine s_iload C dX10_readRow_73 rfl ?_
                refine s_iconst C dX10_readRow_75 (v := (1 : Int32)) (by decide) ?_
                refine s_iadd C dX10_readRow_76 ?_
                refine s_putI C fl_X10_109 (by decide) dX10_readRow_77 hf (fun h11 hf => ?_)
                refine s_iload_n C dX10_readRow_80 rfl ?_
                refine s_bipush C dX10_readRow_81 (v := (10 : Int32)) (by decide) ?_
                refine s_idiv C dX10_readRow_83 hf (fun hf => ?_)
                refine s_istore_n C dX10_readRow_84 (by decide) (nc_i rfl) (lv' := [some (rB (xD X).1 o), none, some (.int (x2 ||| ((1 : Int32) <<< (((x3 - x3 / (10 : Int32) * (10 : Int32)) - (1 : Int32)) &&& 31)))), some (.int (x3 / (10 : Int32))), some (.int x4), some (.int ((x3 - x3 / (10 : Int32) * (10 : Int32)) - (1 : Int32)))]) rfl ?_
                refine s_iinc C dX10_readRow_85 (v := (x4 + 1)) rfl rfl (by decide) (nc_i rfl) (lv' := [some (rB (xD X).1 o), none, some (.int (x2 ||| ((1 : Int32) <<< (((x3 - x3 / (10 : Int32) * (10 : Int32)) - (1 : Int32)) &&& 31)))), some (.int (x3 / (10 : Int32))), some (.int (x4 + 1)), some (.int ((x3 - x3 / (10 : Int32) * (10 : Int32)) - (1 : Int32)))]) rfl ?_
                refine s_goto (tgt := 12) C dX10_readRow_88 (by decide) ?_
                refine s_weak (lv' := [some (rB (xD X).1 o), none, some (.int (x2 ||| ((1 : Int32) <<< (((x3 - x3 / (10 : Int32) * (10 : Int32)) - (1 : Int32)) &&& 31)))), some (.int (x3 / (10 : Int32))), some (.int (x4 + 1)), none]) ⟨rfl, ⟨rfl, ⟨rfl, ⟨rfl, trivial⟩⟩⟩⟩ ?_
                exact ih12 _ _ _ _ hf
              · refine s_weak (lv' := [none, none, none, none, none, none]) trivial ?_
                exact k54 hf
  refine s_weak (lv' := [some (rB (xD X).1 o), none, some (.int (0 : Int32)), some (.int a1), some (.int (0 : Int32)), none]) ⟨rfl, ⟨rfl, ⟨rfl, ⟨rfl, trivial⟩⟩⟩⟩ ?_
  exact k12 lpN _ _ _ _ hf
/-- HillBoxes.judge(III)I -/
noncomputable def f_X11_judge (o : Option Nat) (a1 : Int32) (a2 : Int32) (a3 : Int32) (h : AH) : Option (Int32 × AH) :=
  cl (f_X10_isSetOut a1 a2 h) fun v2 h1 =>
  jn (fun (h3 : AH) =>
    some ((-1 : Int32), h3)) fun j19 =>
  if v2 = 0 then
    j19 h1
  else
    fR h1 [11] o 3 fun v4 =>
    rO h1 [10] v4 <| cl (f_X10_readRow v4 a3 h1) fun v6 h5 =>
    if v6 = 0 then
      j19 h5
    else
      fR h5 [11] o 3 fun v7 =>
      rO h5 [10] v7 <| cl (f_X10_hoursOfRow v7 a1 h5) fun v9 h8 =>
      jn (fun (x10 : Int32) =>
        some (x10, h8)) fun j44 =>
      if v9 ≤ a2 then
        j44 v9
      else
        j44 (-2 : Int32)
set_option maxRecDepth 100000 in
set_option maxHeartbeats 4000000 in
theorem c_X11_judge (l : Launch) (D : DT) (o : Option Nat) (a1 : Int32) (a2 : Int32) (a3 : Int32) (h : AH) (r : Int32 × AH) (hf : f_X11_judge o a1 a2 a3 h = some r) : CM l D yX11_judge cX11_judge 5 (some .int) 5 113 0 0 [.inr (.inr o), .inl a1, .inl a2, .inl a3] h (some (.int r.1)) r.2 := by
  refine CM.of (by decide) (Nat.le_of_ble_eq_true rfl) (fun X hl C hD hX hnm E => ?_)
  subst hl
  subst hD
  have C : CX X RX11 cX11_judge 5 := C
  show WW X h 0 0 0 [some (rB (xD X).1 o), some (.int a1), some (.int a2), some (.int a3), none] []
  unfold f_X11_judge at hf
  refine s_iload_n C dX11_judge_0 rfl ?_
  refine s_iload_n C dX11_judge_1 rfl ?_
  refine s_callS (rvf := fun x => some (.int x)) (st := []) (fr := 0) (lo := 0) (mc := 0) (ms := 0) C wc_X10_isSetOut wml_X11_386 wst_X10_isSetOut dX11_judge_2 (As := [.inl a1, .inl a2]) rfl hf (fun x h' hF => c_X10_isSetOut _ _ _ _ _ (x, h') hF) rfl (Nat.le_of_ble_eq_true rfl) (room_ok hX (Nat.le_of_ble_eq_true rfl) (Nat.le_of_ble_eq_true rfl)) (cell_ok hX (Nat.le_of_ble_eq_true rfl) (Nat.le_of_ble_eq_true rfl)) (fun v2 h1 hf => ?_)
  refine s_jn hf (fun j19 e19 hf => ?_)
  have k19 : ∀ (h3 : AH), j19 h3 = some r → WW X h3 0 0 19 [none, none, none, none, none] [] := by
    intro h3 hf
    rw [e19] at hf
    refine s_iconst C dX11_judge_19 (v := (-1 : Int32)) (by decide) ?_
    exact s_ireturn C E dX11_judge_20 hf (Nat.le_of_ble_eq_true rfl) (Nat.le_of_ble_eq_true rfl)
  refine s_if_eq (tgt := 19) C dX11_judge_5 (by decide) hf (fun hf => ?_) (fun hf => ?_)
  · refine s_weak (lv' := [none, none, none, none, none]) trivial ?_
    exact k19 _ hf
  · refine s_aload_n C dX11_judge_8 rfl ?_
    refine s_getR C fl_X11_37 dX11_judge_9 hf (fun v4 hf => ?_)
    refine s_iload_n C dX11_judge_12 rfl ?_
    refine s_callV (rvf := fun x => some (.int x)) (st := []) (fr := 0) (lo := 0) (mc := 0) (ms := 0) C [10] wc_X10_readRow wml_X11_404 wim_X10_readRow wsl_10_X10_readRow dX11_judge_13 (As := [.inl a3]) rfl hf (fun x h' hF => c_X10_readRow _ _ _ _ _ (x, h') hF) rfl (Nat.le_of_ble_eq_true rfl) (room_ok hX (Nat.le_of_ble_eq_true rfl) (Nat.le_of_ble_eq_true rfl)) (cell_ok hX (Nat.le_of_ble_eq_true rfl) (Nat.le_of_ble_eq_true rfl)) (fun v6 h5 hf => ?_)
    refine s_if_ne (tgt := 21) C dX11_judge_16 (by decide) hf (fun hf => ?_) (fun hf => ?_)
    · refine s_aload_n C dX11_judge_21 rfl ?_
      refine s_getR C fl_X11_37 dX11_judge_22 hf (fun v7 hf => ?_)
      refine s_iload_n C dX11_judge_25 rfl ?_
      refine s_callV (rvf := fun x => some (.int x)) (st := []) (fr := 4) (lo := 89) (mc := 0) (ms := 0) C [10] wc_X10_hoursOfRow wml_X11_407 wim_X10_hoursOfRow wsl_10_X10_hoursOfRow dX11_judge_26 (As := [.inl a1]) rfl hf (fun x h' hF => c_X10_hoursOfRow _ _ _ _ _ (x, h') hF) rfl (Nat.le_of_ble_eq_true rfl) (room_ok hX (Nat.le_of_ble_eq_true rfl) (Nat.le_of_ble_eq_true rfl)) (cell_ok hX (Nat.le_of_ble_eq_true rfl) (Nat.le_of_ble_eq_true rfl)) (fun v9 h8 hf => ?_)
      refine s_istore C dX11_judge_29 (by decide) (nc_i rfl) (lv' := [some (rB (xD X).1 o), some (.int a1), some (.int a2), some (.int a3), some (.int v9)]) rfl ?_
      refine s_iload C dX11_judge_31 rfl ?_
      refine s_iload_n C dX11_judge_33 rfl ?_
      refine s_jn hf (fun j44 e44 hf => ?_)
      have k44 : ∀ (x10 : Int32), j44 x10 = some r → WW X h8 0 0 44 [none, none, none, none, none] [.int x10] := by
        intro x10 hf
        rw [e44] at hf
        exact s_ireturn C E dX11_judge_44 hf (Nat.le_of_ble_eq_true rfl) (Nat.le_of_ble_eq_true rfl)
      refine s_icmp_le (tgt := 42) C dX11_judge_34 (by decide) hf (fun hf => ?_) (fun hf => ?_)
      · refine s_iload C dX11_judge_42 rfl ?_
        refine s_weak (lv' := [none, none, none, none, none]) trivial ?_
        exact k44 _ hf
      · refine s_bipush C dX11_judge_37 (v := (-2 : Int32)) (by decide) ?_
        refine s_goto (tgt := 44) C dX11_judge_39 (by decide) ?_
        refine s_weak (lv' := [none, none, none, none, none]) trivial ?_
        exact k44 _ hf
    · refine s_weak (lv' := [none, none, none, none, none]) trivial ?_
      exact k19 _ hf
/-- HillBoxes$Logs.whereAfter(LHillBoxes$Thing;I)I -/
noncomputable def f_X4_whereAfter (o : Option Nat) (a1 : Option Nat) (a2 : Int32) (h : AH) : Option (Int32 × AH) :=
  jn (
    some ((-1 : Int32), h)) fun j12 =>
  if a2 < 0 then
    j12
  else
    fI h [9] a1 4 fun v1 =>
    if a2 < v1 then
      fR h [9] a1 3 fun v2 =>
      aI h 23 v2 a2 fun v3 =>
      jn (fun (x4 : Int32) =>
        some (x4, h)) fun j48 =>
      if v3 = 0 then
        fR h [4] o 0 fun v5 =>
        fR h [9] a1 2 fun v6 =>
        aI h 20 v6 a2 fun v7 =>
        aI h 20 v5 v7 fun v8 =>
        j48 v8
      else
        fR h [4] o 4 fun v9 =>
        fR h [9] a1 2 fun v10 =>
        aI h 20 v10 a2 fun v11 =>
        aI h 20 v9 v11 fun v12 =>
        j48 v12
    else
      j12
set_option maxRecDepth 100000 in
set_option maxHeartbeats 4000000 in
theorem c_X4_whereAfter (l : Launch) (D : DT) (o : Option Nat) (a1 : Option Nat) (a2 : Int32) (h : AH) (r : Int32 × AH) (hf : f_X4_whereAfter o a1 a2 h = some r) : CM l D yX4_whereAfter cX4_whereAfter 3 (some .int) 0 0 0 0 [.inr (.inr o), .inr (.inr a1), .inl a2] h (some (.int r.1)) r.2 := by
  refine CM.of (by decide) (Nat.le_of_ble_eq_true rfl) (fun X hl C hD hX hnm E => ?_)
  subst hl
  subst hD
  have C : CX X RX4 cX4_whereAfter 3 := C
  show WW X h 0 0 0 [some (rB (xD X).1 o), some (rB (xD X).1 a1), some (.int a2)] []
  unfold f_X4_whereAfter at hf
  refine s_iload_n C dX4_whereAfter_0 rfl ?_
  refine s_jn hf (fun j12 e12 hf => ?_)
  have k12 : j12  = some r → WW X h 0 0 12 [none, none, none] [] := by
    intro  hf
    rw [e12] at hf
    refine s_iconst C dX4_whereAfter_12 (v := (-1 : Int32)) (by decide) ?_
    exact s_ireturn C E dX4_whereAfter_13 hf (Nat.le_of_ble_eq_true rfl) (Nat.le_of_ble_eq_true rfl)
  refine s_if_lt (tgt := 12) C dX4_whereAfter_1 (by decide) hf (fun hf => ?_) (fun hf => ?_)
  · refine s_weak (lv' := [none, none, none]) trivial ?_
    exact k12 hf
  · refine s_iload_n C dX4_whereAfter_4 rfl ?_
    refine s_aload_n C dX4_whereAfter_5 rfl ?_
    refine s_getI C fl_X4_130 dX4_whereAfter_6 hf (fun v1 hf => ?_)
    refine s_icmp_lt (tgt := 14) C dX4_whereAfter_9 (by decide) hf (fun hf => ?_) (fun hf => ?_)
    · refine s_aload_n C dX4_whereAfter_14 rfl ?_
      refine s_getR C fl_X4_135 dX4_whereAfter_15 hf (fun v2 hf => ?_)
      refine s_iload_n C dX4_whereAfter_18 rfl ?_
      refine s_zaload C dX4_whereAfter_19 hf (fun v3 hf => ?_)
      refine s_jn hf (fun j48 e48 hf => ?_)
      have k48 : ∀ (x4 : Int32), j48 x4 = some r → WW X h 0 0 48 [none, none, none] [.int x4] := by
        intro x4 hf
        rw [e48] at hf
        exact s_ireturn C E dX4_whereAfter_48 hf (Nat.le_of_ble_eq_true rfl) (Nat.le_of_ble_eq_true rfl)
      refine s_if_eq (tgt := 37) C dX4_whereAfter_20 (by decide) hf (fun hf => ?_) (fun hf => ?_)
      · refine s_aload_n C dX4_whereAfter_37 rfl ?_
        refine s_getR C fl_X4_9 dX4_whereAfter_38 hf (fun v5 hf => ?_)
        refine s_aload_n C dX4_whereAfter_41 rfl ?_
        refine s_getR C fl_X4_138 dX4_whereAfter_42 hf (fun v6 hf => ?_)
        refine s_iload_n C dX4_whereAfter_45 rfl ?_
        refine s_iaload C dX4_whereAfter_46 hf (fun v7 hf => ?_)
        refine s_iaload C dX4_whereAfter_47 hf (fun v8 hf => ?_)
        refine s_weak (lv' := [none, none, none]) trivial ?_
        exact k48 _ hf
      · refine s_aload_n C dX4_whereAfter_23 rfl ?_
        refine s_getR C fl_X4_22 dX4_whereAfter_24 hf (fun v9 hf => ?_)
        refine s_aload_n C dX4_whereAfter_27 rfl ?_
        refine s_getR C fl_X4_138 dX4_whereAfter_28 hf (fun v10 hf => ?_)
        refine s_iload_n C dX4_whereAfter_31 rfl ?_
        refine s_iaload C dX4_whereAfter_32 hf (fun v11 hf => ?_)
        refine s_iaload C dX4_whereAfter_33 hf (fun v12 hf => ?_)
        refine s_goto (tgt := 48) C dX4_whereAfter_34 (by decide) ?_
        refine s_weak (lv' := [none, none, none]) trivial ?_
        exact k48 _ hf
    · refine s_weak (lv' := [none, none, none]) trivial ?_
      exact k12 hf
/-- HillBoxes$Logs.isJump(LHillBoxes$Thing;I)Z -/
noncomputable def f_X4_isJump (o : Option Nat) (a1 : Option Nat) (a2 : Int32) (h : AH) : Option (Int32 × AH) :=
  fR h [9] a1 3 fun v1 =>
  aI h 23 v1 a2 fun v2 =>
  jn (fun (x3 : Int32) =>
    rO h [4] o <| cl (f_X4_whereAfter o a1 (a2 - (1 : Int32)) h) fun v5 h4 =>
    jn (fun (x6 : Int32) =>
      rz x6 h4) fun j52 =>
    if v5 = x3 then
      j52 (0 : Int32)
    else
      j52 (1 : Int32)) fun j34 =>
  if v2 = 0 then
    fR h [4] o 4 fun v7 =>
    fR h [9] a1 2 fun v8 =>
    aI h 20 v8 a2 fun v9 =>
    aI h 20 v7 v9 fun v10 =>
    j34 v10
  else
    fR h [4] o 0 fun v11 =>
    fR h [9] a1 2 fun v12 =>
    aI h 20 v12 a2 fun v13 =>
    aI h 20 v11 v13 fun v14 =>
    j34 v14
set_option maxRecDepth 100000 in
set_option maxHeartbeats 4000000 in
theorem c_X4_isJump (l : Launch) (D : DT) (o : Option Nat) (a1 : Option Nat) (a2 : Int32) (h : AH) (r : Int32 × AH) (hf : f_X4_isJump o a1 a2 h = some r) : CM l D yX4_isJump cX4_isJump 4 (some .boolean) 1 22 0 0 [.inr (.inr o), .inr (.inr a1), .inl a2] h (some (.int r.1)) r.2 := by
  refine CM.of (by decide) (Nat.le_of_ble_eq_true rfl) (fun X hl C hD hX hnm E => ?_)
  subst hl
  subst hD
  have C : CX X RX4 cX4_isJump 4 := C
  show WW X h 0 0 0 [some (rB (xD X).1 o), some (rB (xD X).1 a1), some (.int a2), none] []
  unfold f_X4_isJump at hf
  refine s_aload_n C dX4_isJump_0 rfl ?_
  refine s_getR C fl_X4_135 dX4_isJump_1 hf (fun v1 hf => ?_)
  refine s_iload_n C dX4_isJump_4 rfl ?_
  refine s_zaload C dX4_isJump_5 hf (fun v2 hf => ?_)
  refine s_jn hf (fun j34 e34 hf => ?_)
  have k34 : ∀ (x3 : Int32), j34 x3 = some r → WW X h 0 0 34 [some (rB (xD X).1 o), some (rB (xD X).1 a1), some (.int a2), none] [.int x3] := by
    intro x3 hf
    rw [e34] at hf
    refine s_istore_n C dX4_isJump_34 (by decide) (nc_i rfl) (lv' := [some (rB (xD X).1 o), some (rB (xD X).1 a1), some (.int a2), some (.int x3)]) rfl ?_
    refine s_aload_n C dX4_isJump_35 rfl ?_
    refine s_aload_n C dX4_isJump_36 rfl ?_
    refine s_iload_n C dX4_isJump_37 rfl ?_
    refine s_iconst C dX4_isJump_38 (v := (1 : Int32)) (by decide) ?_
    refine s_isub C dX4_isJump_39 ?_
    refine s_callV (rvf := fun x => some (.int x)) (st := []) (fr := 0) (lo := 0) (mc := 0) (ms := 0) C [4] wc_X4_whereAfter wml_X4_141 wim_X4_whereAfter wsl_4_X4_whereAfter dX4_isJump_40 (As := [.inr (.inr a1), .inl (a2 - (1 : Int32))]) rfl hf (fun x h' hF => c_X4_whereAfter _ _ _ _ _ _ (x, h') hF) rfl (Nat.le_of_ble_eq_true rfl) (room_ok hX (Nat.le_of_ble_eq_true rfl) (Nat.le_of_ble_eq_true rfl)) (cell_ok hX (Nat.le_of_ble_eq_true rfl) (Nat.le_of_ble_eq_true rfl)) (fun v5 h4 hf => ?_)
    refine s_iload_n C dX4_isJump_43 rfl ?_
    refine s_jn hf (fun j52 e52 hf => ?_)
    have k52 : ∀ (x6 : Int32), j52 x6 = some r → WW X h4 0 0 52 [none, none, none, none] [.int x6] := by
      intro x6 hf
      rw [e52] at hf
      exact s_zreturn C E dX4_isJump_52 hf (Nat.le_of_ble_eq_true rfl) (Nat.le_of_ble_eq_true rfl)
    refine s_icmp_eq (tgt := 51) C dX4_isJump_44 (by decide) hf (fun hf => ?_) (fun hf => ?_)
    · refine s_iconst C dX4_isJump_51 (v := (0 : Int32)) (by decide) ?_
      refine s_weak (lv' := [none, none, none, none]) trivial ?_
      exact k52 _ hf
    · refine s_iconst C dX4_isJump_47 (v := (1 : Int32)) (by decide) ?_
      refine s_goto (tgt := 52) C dX4_isJump_48 (by decide) ?_
      refine s_weak (lv' := [none, none, none, none]) trivial ?_
      exact k52 _ hf
  refine s_if_eq (tgt := 23) C dX4_isJump_6 (by decide) hf (fun hf => ?_) (fun hf => ?_)
  · refine s_aload_n C dX4_isJump_23 rfl ?_
    refine s_getR C fl_X4_22 dX4_isJump_24 hf (fun v7 hf => ?_)
    refine s_aload_n C dX4_isJump_27 rfl ?_
    refine s_getR C fl_X4_138 dX4_isJump_28 hf (fun v8 hf => ?_)
    refine s_iload_n C dX4_isJump_31 rfl ?_
    refine s_iaload C dX4_isJump_32 hf (fun v9 hf => ?_)
    refine s_iaload C dX4_isJump_33 hf (fun v10 hf => ?_)
    exact k34 _ hf
  · refine s_aload_n C dX4_isJump_9 rfl ?_
    refine s_getR C fl_X4_9 dX4_isJump_10 hf (fun v11 hf => ?_)
    refine s_aload_n C dX4_isJump_13 rfl ?_
    refine s_getR C fl_X4_138 dX4_isJump_14 hf (fun v12 hf => ?_)
    refine s_iload_n C dX4_isJump_17 rfl ?_
    refine s_iaload C dX4_isJump_18 hf (fun v13 hf => ?_)
    refine s_iaload C dX4_isJump_19 hf (fun v14 hf => ?_)
    refine s_goto (tgt := 34) C dX4_isJump_20 (by decide) ?_
    exact k34 _ hf
/-- HillBoxes.jump(II)I -/
noncomputable def f_X11_jump (o : Option Nat) (a1 : Int32) (a2 : Int32) (h : AH) : Option (Int32 × AH) :=
  fR h [11] o 0 fun v1 =>
  rO h [3] v1 <| cl (f_X3_thingAt v1 a1 h) fun v3 h2 =>
  if v3 = none then
    some ((-1 : Int32), h2)
  else
    lp (fun _ _ _ => none) (fun (L21 : Int32 → Int32 → AH → Option (Int32 × AH)) (x4 : Int32) (x5 : Int32) (h6 : AH) =>
      fI h6 [9] v3 4 fun v7 =>
      if v7 ≤ x5 then
        jn (fun (x8 : Int32) =>
          some (x8, h6)) fun j72 =>
        if a2 = (-1 : Int32) then
          j72 x4
        else
          j72 (-1 : Int32)
      else
        fR h6 [11] o 2 fun v9 =>
        rO h6 [4] v9 <| cl (f_X4_isJump v9 v3 x5 h6) fun v11 h10 =>
        jn (fun (x12 : Int32) =>
          L21 x12 (x5 + 1) h10) fun j55 =>
        if v11 = 0 then
          j55 x4
        else
          if x4 = a2 then
            some (x5, h10)
          else
            j55 (x4 + 1)) lpN (0 : Int32) (0 : Int32) h2
set_option maxRecDepth 100000 in
set_option maxHeartbeats 4000000 in
theorem c_X11_jump (l : Launch) (D : DT) (o : Option Nat) (a1 : Int32) (a2 : Int32) (h : AH) (r : Int32 × AH) (hf : f_X11_jump o a1 a2 h = some r) : CM l D yX11_jump cX11_jump 6 (some .int) 2 45 0 0 [.inr (.inr o), .inl a1, .inl a2] h (some (.int r.1)) r.2 := by
  refine CM.of (by decide) (Nat.le_of_ble_eq_true rfl) (fun X hl C hD hX hnm E => ?_)
  subst hl
  subst hD
  have C : CX X RX11 cX11_jump 6 := C
  show WW X h 0 0 0 [some (rB (xD X).1 o), some (.int a1), some (.int a2), none, none, none] []
  unfold f_X11_jump at hf
  refine s_aload_n C dX11_jump_0 rfl ?_
  refine s_getR C fl_X11_10 dX11_jump_1 hf (fun v1 hf => ?_)
  refine s_iload_n C dX11_jump_4 rfl ?_
  refine s_callV (rvf := fun x => some (rB (xD X).1 x)) (st := []) (fr := 0) (lo := 0) (mc := 0) (ms := 0) C [3] wc_X3_thingAt wml_X11_336 wim_X3_thingAt wsl_3_X3_thingAt dX11_jump_5 (As := [.inl a1]) rfl hf (fun x h' hF => c_X3_thingAt _ _ _ _ _ (x, h') hF) rfl (Nat.le_of_ble_eq_true rfl) (room_ok hX (Nat.le_of_ble_eq_true rfl) (Nat.le_of_ble_eq_true rfl)) (cell_ok hX (Nat.le_of_ble_eq_true rfl) (Nat.le_of_ble_eq_true rfl)) (fun v3 h2 hf => ?_)
  refine s_astore_n C dX11_jump_8 (by decide) (nc_i rfl) (lv' := [some (rB (xD X).1 o), some (.int a1), some (.int a2), some (rB (xD X).1 v3), none, none]) rfl ?_
  refine s_aload_n C dX11_jump_9 rfl ?_
  refine s_ifnonnull (tgt := 15) C dX11_jump_10 (by decide) hf (fun hf => ?_) (fun hf => ?_)
  · refine s_iconst C dX11_jump_15 (v := (0 : Int32)) (by decide) ?_
    refine s_istore C dX11_jump_16 (by decide) (nc_r rfl) (lv' := [some (rB (xD X).1 o), some (.int a1), some (.int a2), some (rB (xD X).1 v3), some (.int (0 : Int32)), none]) rfl ?_
    refine s_iconst C dX11_jump_18 (v := (0 : Int32)) (by decide) ?_
    refine s_istore C dX11_jump_19 (by decide) (nc_i rfl) (lv' := [some (rB (xD X).1 o), some (.int a1), some (.int a2), some (rB (xD X).1 v3), some (.int (0 : Int32)), some (.int (0 : Int32))]) rfl ?_
    refine s_lp3 hf (fun G21 z21 q21 hf => ?_)
    have k21 : ∀ (n : Nat) (x4 : Int32) (x5 : Int32) (h6 : AH), G21 n x4 x5 h6 = some r → WW X h6 0 0 21 [some (rB (xD X).1 o), none, some (.int a2), some (rB (xD X).1 v3), some (.int x4), some (.int x5)] [] := by
      intro n
      induction n with
      | zero =>
        intro x4 x5 h6 hf
        rw [z21] at hf
        cases hf
      | succ n ih21 =>
        intro x4 x5 h6 hf
        have hf := (q21 n x4 x5 h6).symm.trans hf
        refine s_iload C dX11_jump_21 rfl ?_
        refine s_aload_n C dX11_jump_23 rfl ?_
        refine s_getI C fl_X11_344 dX11_jump_24 hf (fun v7 hf => ?_)
        refine s_icmp_ge (tgt := 61) C dX11_jump_27 (by decide) hf (fun hf => ?_) (fun hf => ?_)
        · refine s_iload_n C dX11_jump_61 rfl ?_
          refine s_iconst C dX11_jump_62 (v := (-1 : Int32)) (by decide) ?_
          refine s_jn hf (fun j72 e72 hf => ?_)
          have k72 : ∀ (x8 : Int32), j72 x8 = some r → WW X h6 0 0 72 [none, none, none, none, none, none] [.int x8] := by
            intro x8 hf
            rw [e72] at hf
            exact s_ireturn C E dX11_jump_72 hf (Nat.le_of_ble_eq_true rfl) (Nat.le_of_ble_eq_true rfl)
          refine s_icmp_ne (tgt := 71) C dX11_jump_63 (by decide) hf (fun hf => ?_) (fun hf => ?_)
          · refine s_iconst C dX11_jump_71 (v := (-1 : Int32)) (by decide) ?_
            refine s_weak (lv' := [none, none, none, none, none, none]) trivial ?_
            exact k72 _ hf
          · refine s_iload C dX11_jump_66 rfl ?_
            refine s_goto (tgt := 72) C dX11_jump_68 (by decide) ?_
            refine s_weak (lv' := [none, none, none, none, none, none]) trivial ?_
            exact k72 _ hf
        · refine s_aload_n C dX11_jump_30 rfl ?_
          refine s_getR C fl_X11_30 dX11_jump_31 hf (fun v9 hf => ?_)
          refine s_aload_n C dX11_jump_34 rfl ?_
          refine s_iload C dX11_jump_35 rfl ?_
          refine s_callV (rvf := fun x => some (.int x)) (st := []) (fr := 1) (lo := 22) (mc := 0) (ms := 0) C [4] wc_X4_isJump wml_X11_352 wim_X4_isJump wsl_4_X4_isJump dX11_jump_37 (As := [.inr (.inr v3), .inl x5]) rfl hf (fun x h' hF => c_X4_isJump _ _ _ _ _ _ (x, h') hF) rfl (Nat.le_of_ble_eq_true rfl) (room_ok hX (Nat.le_of_ble_eq_true rfl) (Nat.le_of_ble_eq_true rfl)) (cell_ok hX (Nat.le_of_ble_eq_true rfl) (Nat.le_of_ble_eq_true rfl)) (fun v11 h10 hf => ?_)
          refine s_jn hf (fun j55 e55 hf => ?_)
          have k55 : ∀ (x12 : Int32), j55 x12 = some r → WW X h10 0 0 55 [some (rB (xD X).1 o), none, some (.int a2), some (rB (xD X).1 v3), some (.int x12), some (.int x5)] [] := by
            intro x12 hf
            rw [e55] at hf
            refine s_iinc C dX11_jump_55 (v := (x5 + 1)) rfl rfl (by decide) (nc_i rfl) (lv' := [some (rB (xD X).1 o), none, some (.int a2), some (rB (xD X).1 v3), some (.int x12), some (.int (x5 + 1))]) rfl ?_
            refine s_goto (tgt := 21) C dX11_jump_58 (by decide) ?_
            exact ih21 _ _ _ hf
          refine s_if_eq (tgt := 55) C dX11_jump_40 (by decide) hf (fun hf => ?_) (fun hf => ?_)
          · exact k55 _ hf
          · refine s_iload C dX11_jump_43 rfl ?_
            refine s_iload_n C dX11_jump_45 rfl ?_
            refine s_icmp_ne (tgt := 52) C dX11_jump_46 (by decide) hf (fun hf => ?_) (fun hf => ?_)
            · refine s_iinc C dX11_jump_52 (v := (x4 + 1)) rfl rfl (by decide) (nc_r rfl) (lv' := [some (rB (xD X).1 o), none, some (.int a2), some (rB (xD X).1 v3), some (.int (x4 + 1)), some (.int x5)]) rfl ?_
              exact k55 _ hf
            · refine s_iload C dX11_jump_49 rfl ?_
              exact s_ireturn C E dX11_jump_51 hf (Nat.le_of_ble_eq_true rfl) (Nat.le_of_ble_eq_true rfl)
    refine s_weak (lv' := [some (rB (xD X).1 o), none, some (.int a2), some (rB (xD X).1 v3), some (.int (0 : Int32)), some (.int (0 : Int32))]) ⟨rfl, ⟨rfl, ⟨rfl, ⟨rfl, ⟨rfl, trivial⟩⟩⟩⟩⟩ ?_
    exact k21 lpN _ _ _ hf
  · refine s_iconst C dX11_jump_13 (v := (-1 : Int32)) (by decide) ?_
    exact s_ireturn C E dX11_jump_14 hf (Nat.le_of_ble_eq_true rfl) (Nat.le_of_ble_eq_true rfl)
